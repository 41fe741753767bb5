abbrev cls5 : List vw_C := [(RX1, TX1, 3), (RX2, TX2, 11), (RX3, TX3, 2), (RX4, TX4, 10), (RX5, TX5, 21)]
abbrev tys3 (G : ClassId × ClassId × ClassId) : List (ClassId × FieldType) := [(G.1, .int), (G.2.1, .byte), (G.2.2, .boolean)]
abbrev wM (y : MethodName) (cc : ByteArray) (n : Nat) (ret : Option FieldType) : List Cond := Cond.code y cc n ret :: WT
abbrev rmD (d : Nat) : Room := { frames := d, cells := 0, slots := 0, locals := 40 * d }
theorem WT_good : WT.all goodWord = true := List.all_eq_true.mpr fun w h => (List.mem_filter.mp h).2
theorem gW {y1 y : MethodName} {c1 cc : ByteArray} {n1 n : Nat} {r1 r : Option FieldType} (h1 : Cond.code y cc n r ∈ WT) : GoodIn (wM y1 c1 n1 r1) (wM y cc n r) := by
  intro w hw
  rcases List.mem_cons.mp hw with h | h
  · subst h; exact ⟨List.mem_cons_of_mem _ h1, good_of_word (List.all_eq_true.mp WT_good _ h1)⟩
  · exact ⟨List.mem_cons_of_mem _ h, good_of_word (List.all_eq_true.mp WT_good _ h)⟩
theorem gWT {y : MethodName} {cc : ByteArray} {n : Nat} {r : Option FieldType} (h1 : Cond.code y cc n r ∈ WT) : GoodIn lw_tbl (wM y cc n r) := by
  intro w hw
  rcases List.mem_cons.mp hw with h | h
  · subst h; exact ⟨(List.mem_filter.mp h1).1, good_of_word (List.all_eq_true.mp WT_good _ h1)⟩
  · exact ⟨(List.mem_filter.mp h).1, good_of_word (List.all_eq_true.mp WT_good _ h)⟩
section KW
variable {p : Program} {l : Launch} {e : Env} {R : Room} {s : State} {m : MethodId} {args : Array Value} {below : List Frame} {meth : Method} {c : Code} {H : Heap} {locs : List Loc} {cells slots : Nat} {Q : State → Prop}
variable {Ts : List Cond} {cc bytes : ByteArray} {nL maxL idx n mc ms : Nat} {own : String} {y : MethodName} {ret : Option FieldType} {rm : Room} {Pc : Array Value → State → Prop} {Qc : Array Value → State → Outcome → State → Prop} {free : Addr → Prop}
theorem cwVW (hT : ∀ w ∈ Ts, w.before args s = true) (hG : ∀ (y : MethodName) (cc : ByteArray) (n : Nat) (r : Option FieldType), Cond.code y cc n r ∈ WT → GoodIn Ts (wM y cc n r)) (lk : LkV own idx y bytes maxL ret n) (hR : rm.cells = mc ∧ rm.slots = ms ∧ rm.frames + 1 ≤ R.frames ∧ 8 + (maxL + 11) + rm.locals ≤ R.locals) : CallW R s args own y.cls idx y bytes maxL ret (wM y bytes maxL ret) rm mc ms n := by
  obtain ⟨h1, h2, h3, h4, h5, h6, h7⟩ := lk
  have g := hG _ _ _ _ h5
  have t : ∀ w ∈ WT, w.before args s = true := fun w h => hT w (g w (List.mem_cons_of_mem _ h)).1
  exact ⟨callB_of n hT g rfl hR.1 hR.2.1 (t _ h4) (t _ h1) ⟨h6.1, h6.2, h7⟩ ⟨hR.2.2.1, hR.2.2.2⟩, t _ h2, t _ h3⟩
theorem cwSW (hT : ∀ w ∈ Ts, w.before args s = true) (hG : ∀ (y : MethodName) (cc : ByteArray) (n : Nat) (r : Option FieldType), Cond.code y cc n r ∈ WT → GoodIn Ts (wM y cc n r)) (lk : LkS own idx y bytes maxL ret n) (hR : rm.cells = mc ∧ rm.slots = ms ∧ rm.frames + 1 ≤ R.frames ∧ 8 + (maxL + 11) + rm.locals ≤ R.locals) : CallB R s args own idx y bytes maxL ret (wM y bytes maxL ret) rm mc ms n ∧ (Cond.static y).before args s = true := by
  obtain ⟨h1, h2, h4, h5, h6, h7⟩ := lk
  have g := hG _ _ _ _ h5
  have t : ∀ w ∈ WT, w.before args s = true := fun w h => hT w (g w (List.mem_cons_of_mem _ h)).1
  exact ⟨callB_of n hT g rfl hR.1 hR.2.1 (t _ h4) (t _ h1) ⟨h6.1, h6.2, h7⟩ ⟨hR.2.2.1, hR.2.2.2⟩, t _ h2⟩
theorem cwIW (hT : ∀ w ∈ Ts, w.before args s = true) (hG : ∀ (y : MethodName) (cc : ByteArray) (n : Nat) (r : Option FieldType), Cond.code y cc n r ∈ WT → GoodIn Ts (wM y cc n r)) (lk : LkI own idx y bytes maxL n) (hR : rm.cells = mc ∧ rm.slots = ms ∧ rm.frames + 1 ≤ R.frames ∧ 8 + (maxL + 11) + rm.locals ≤ R.locals) : CallB R s args own idx y bytes maxL none (wM y bytes maxL none) rm mc ms n ∧ y.name = "<init>" ∧ (Cond.instanceMethod y).before args s = true := by
  obtain ⟨h1, h2, h4, h5, ⟨h6, h7⟩, h8⟩ := lk
  have g := hG _ _ _ _ h5
  have t : ∀ w ∈ WT, w.before args s = true := fun w h => hT w (g w (List.mem_cons_of_mem _ h)).1
  exact ⟨callB_of n hT g rfl hR.1 hR.2.1 (t _ h4) (t _ h1) ⟨h6.1, h6.2, h7⟩ ⟨hR.2.2.1, hR.2.2.2⟩, h8, t _ h2⟩
end KW
/-- a list of words in which every method's words stand -/
def Tg (Ts : List Cond) : Prop := ∀ (y : MethodName) (cc : ByteArray) (n : Nat) (r : Option FieldType), Cond.code y cc n r ∈ WT → GoodIn Ts (wM y cc n r)
theorem Tg_M {y : MethodName} {cc : ByteArray} {n : Nat} {r : Option FieldType} : Tg (wM y cc n r) := fun _ _ _ _ h => gW h
theorem Tg_L : Tg lw_tbl := fun _ _ _ _ h => gWT h
/-! contracts that only read: the heap stays -/
abbrev rP (D : va_G) (G : ClassId × ClassId × ClassId) (av : List Value) (wc : va_W) (H0 : Heap) : Array Value → State → Prop := va_Pc av (fun U => U.heap = H0 ∧ va_P D cls5 wc H0 ∧ va_K D cls5 (tys3 G) U)
abbrev rQi (v : Int32) (H0 : Heap) : Array Value → State → Outcome → State → Prop := va_Qi (fun (r : Int32) (_ : Unit) => r = v) (fun _ t => t.heap = H0) (fun q => H0.size ≤ q)
abbrev rQl (v : Int64) (H0 : Heap) : Array Value → State → Outcome → State → Prop := va_Ql (fun (r : Int64) (_ : Unit) => r = v) (fun _ t => t.heap = H0) (fun q => H0.size ≤ q)
abbrev rQr (a0 : Nat) (H0 : Heap) : Array Value → State → Outcome → State → Prop := va_Qr (fun (_ : Unit) => True) (fun _ a t => a = a0 ∧ t.heap = H0) (fun q => H0.size ≤ q)
abbrev rF (H0 : Heap) : Nat → Prop := fun q => H0.size ≤ q
/-! contracts that write: the cells of wc become those of w1 u -/
abbrev wP (D : va_G) (G : ClassId × ClassId × ClassId) (av : List Value) (wc : va_W) (H0 : Heap) : Array Value → State → Prop := va_Pc av (fun U => U.heap = H0 ∧ va_P D cls5 wc H0 ∧ va_D (fun _ => True) wc ∧ va_K D cls5 (tys3 G) U)
abbrev wQi {S : Type} (D : va_G) (post : Int32 → S → Prop) (wc : va_W) (w1 : S → va_W) (H0 : Heap) : Array Value → State → Outcome → State → Prop := va_Qi post (fun u t => va_P D cls5 (w1 u) t.heap) (va_A wc H0.size)
abbrev wQl {S : Type} (D : va_G) (post : Int64 → S → Prop) (wc : va_W) (w1 : S → va_W) (H0 : Heap) : Array Value → State → Outcome → State → Prop := va_Ql post (fun u t => va_P D cls5 (w1 u) t.heap) (va_A wc H0.size)
abbrev wQv {S : Type} (D : va_G) (post : S → Prop) (wc : va_W) (w1 : S → va_W) (H0 : Heap) : Array Value → State → Outcome → State → Prop := va_Qv post (fun u t => va_P D cls5 (w1 u) t.heap) (va_A wc H0.size)
theorem rP_blind {D : va_G} {G : ClassId × ClassId × ClassId} {av : List Value} {wc : va_W} {H0 : Heap} : FrameBlind (rP D G av wc H0) := fun a U g mk q => ⟨q.1, q.2.1, q.2.2.1, va_K.moved (u := U) (U := U.calling g mk a) (Vm.Alike.refl U.vm) q.2.2.2⟩
theorem wP_blind {D : va_G} {G : ClassId × ClassId × ClassId} {av : List Value} {wc : va_W} {H0 : Heap} : FrameBlind (wP D G av wc H0) := fun a U g mk q => ⟨q.1, q.2.1, q.2.2.1, q.2.2.2.1, va_K.moved (u := U) (U := U.calling g mk a) (Vm.Alike.refl U.vm) q.2.2.2.2⟩
/-- cells written at their places -/
def va_wr (wx : va_W) : List Nat → va_W → va_W
  | i :: is, q :: qs => va_wr (wx.set i q) is qs
  | _, _ => wx
theorem va_wr_at : ∀ (is : List Nat) (w1 wx : va_W) (k : Nat) (q : Nat × va_E), (va_wr wx is w1)[k]? = some q → is.length = w1.length → (∃ j : Nat, is[j]? = some k ∧ w1[j]? = some q) ∨ (wx[k]? = some q ∧ k ∉ is) := by
  intro is
  induction is with
  | nil => intro w1 wx k q h _; exact Or.inr ⟨by cases w1 <;> exact h, List.not_mem_nil⟩
  | cons i is ih =>
    intro w1 wx k q h hl
    cases w1 with
    | nil => simp at hl
    | cons q0 qs =>
      have hl' : is.length = qs.length := by simpa using hl
      rcases ih qs (wx.set i q0) k q h hl' with ⟨j, h1, h2⟩ | ⟨h1, h2⟩
      · exact Or.inl ⟨j + 1, by simpa using h1, by simpa using h2⟩
      · by_cases hk : i = k
        · subst hk
          by_cases hlt : i < wx.length
          · rw [List.getElem?_set_self hlt] at h1
            exact Or.inl ⟨0, by simp, by simpa using h1⟩
          · rw [List.getElem?_eq_none (by simp; omega)] at h1
            cases h1
        · rw [List.getElem?_set_ne hk] at h1
          exact Or.inr ⟨h1, fun hm => by
            rcases List.mem_cons.mp hm with e | e
            · exact hk e.symm
            · exact h2 e⟩
theorem va_map_at {w1 w2 : va_W} (h : w1.map (·.1) = w2.map (·.1)) {j : Nat} {q : Nat × va_E} (hj : w1[j]? = some q) : ∃ q', w2[j]? = some q' ∧ q'.1 = q.1 := by
  have h2 : (w1.map (·.1))[j]? = some q.1 := by rw [List.getElem?_map, hj]; rfl
  rw [h, List.getElem?_map] at h2
  cases hw : w2[j]? with
  | none => rw [hw] at h2; cases h2
  | some q' => rw [hw] at h2; exact ⟨q', rfl, by simpa using h2⟩
theorem va_D.same {A : Nat → Prop} {w1 w2 : va_W} (hD : va_D A w1) (h : w2.map (·.1) = w1.map (·.1)) : va_D A w2 := by
  refine ⟨fun i j p q hi hj e => ?_, fun k q hk => ?_⟩
  · obtain ⟨p', h1, e1⟩ := va_map_at h hi
    obtain ⟨q', h2, e2⟩ := va_map_at h hj
    exact hD.1 i j p' q' h1 h2 (by rw [e1, e2]; exact e)
  · obtain ⟨q', h1, e1⟩ := va_map_at h hk
    rw [← e1]; exact hD.2 k q' h1
theorem va_join_wr {A0 : Nat → Prop} {D : va_G} {cl : List vw_C} {wx wc w1 : va_W} {H H1 : Heap} (hP : va_P D cl wx H) (hD : va_D A0 wx) (is : List Nat) (hC : is.map (fun i => wx[i]?) = wc.map some) (hm : w1.map (·.1) = wc.map (·.1)) (hk : ∀ q : Nat, q < H.size → ¬ va_A wc H.size q → H1[q]? = H[q]?) (hP1 : va_P D cl w1 H1) : va_P D cl (va_wr wx is w1) H1 ∧ va_D A0 (va_wr wx is w1) := by
  have hlen : is.length = w1.length := by
    have h1 : is.length = wc.length := by simpa using congrArg List.length hC
    have h2 : w1.length = wc.length := by simpa using congrArg List.length hm
    omega
  have hat : ∀ (j k : Nat), is[j]? = some k → ∃ q', wc[j]? = some q' ∧ wx[k]? = some q' := by
    intro j k hj
    have h1 : (is.map (fun i => wx[i]?))[j]? = some (wx[k]?) := by rw [List.getElem?_map, hj]; rfl
    rw [hC, List.getElem?_map] at h1
    cases hw : wc[j]? with
    | none => rw [hw] at h1; cases h1
    | some q' =>
      rw [hw] at h1
      exact ⟨q', rfl, by simpa using h1.symm⟩
  refine ⟨fun k q hkq => ?_, ?_⟩
  · rcases va_wr_at is w1 wx k q hkq hlen with ⟨j, h1, h2⟩ | ⟨h1, h2⟩
    · exact hP1 j q h2
    · refine (hP k q h1).kept (hk q.1 (hP k q h1).lt ?_)
      rintro (⟨j, e, hj⟩ | hz)
      · obtain ⟨i, hi⟩ : ∃ i, is[j]? = some i := by
          have hjl : j < is.length := by
            have h3 : is.length = wc.length := by simpa using congrArg List.length hC
            rw [h3]; exact (List.getElem?_eq_some_iff.mp hj).1
          exact ⟨is[j], List.getElem?_eq_getElem hjl⟩
        obtain ⟨q', hq1, hq2⟩ := hat j i hi
        rw [hj] at hq1; cases hq1
        have : i = k := hD.1 i k _ _ hq2 h1 rfl
        subst this
        exact h2 (List.mem_of_getElem? hi)
      · exact absurd (hP k q h1).lt (Nat.not_lt.mpr hz)
  · refine ⟨fun i j p q hi hj e => ?_, fun k q hkq => ?_⟩
    · have g : ∀ (k : Nat) (q : Nat × va_E), (va_wr wx is w1)[k]? = some q → ∃ q', wx[k]? = some q' ∧ q'.1 = q.1 := by
        intro k q h
        rcases va_wr_at is w1 wx k q h hlen with ⟨j, h1, h2⟩ | ⟨h1, h2⟩
        · obtain ⟨q', h3, h4⟩ := va_map_at hm h2
          obtain ⟨q2, h5, h6⟩ := hat j k h1
          rw [h3] at h5; cases h5
          exact ⟨q', h6, h4⟩
        · exact ⟨q, h1, rfl⟩
      obtain ⟨p', h1, e1⟩ := g i p hi
      obtain ⟨q', h2, e2⟩ := g j q hj
      exact hD.1 i j p' q' h1 h2 (by rw [e1, e2]; exact e)
    · rcases va_wr_at is w1 wx k q hkq hlen with ⟨j, h1, h2⟩ | ⟨h1, h2⟩
      · obtain ⟨q', h3, h4⟩ := va_map_at hm h2
        obtain ⟨q2, h5, h6⟩ := hat j k h1
        rw [h3] at h5; cases h5
        rw [← h4]; exact hD.2 k q' h6
      · exact hD.2 k q h1
section KC
variable {p : Program} {l : Launch} {e : Env} {R : Room} {s : State} {m : MethodId} {args : Array Value} {below : List Frame} {meth : Method} {c : Code} {H : Heap} {locs : List Loc} {cells slots : Nat} {Q : State → Prop}
variable {Ts : List Cond} {cc bytes : ByteArray} {nL maxL idx n : Nat} {own : String} {y : MethodName} {ret : Option FieldType} {rm : Room} {D : va_G} {G : ClassId × ClassId × ClassId} {wx wc : va_W} {b : Addr} {As rest : List Value} {pc : Nat} {ls : Array Slot} {st0 : List Value} {A0 : Nat → Prop} {H0 : Heap} {lv : List (Nat × Value)}
theorem roV_run {Qc : Array Value → State → Outcome → State → Prop} {free : Addr → Prop} (hx : p.tables.exec = Jvm.exec) (hb : c.code = cc) (hml : c.maxLocals = nL) (hown : s.vm.findClass own = some m.cls) (hts : ∀ w ∈ Ts, w.before args s = true) (hG : Tg Ts)
    (hM : Met l y (wM y bytes maxL ret) rm (rP D G (.ref b :: As) wc H) Qc 0 0 free) (lk : LkV own idx y bytes maxL ret n) (hR : rm.cells = 0 ∧ rm.slots = 0 ∧ rm.frames + 1 ≤ R.frames ∧ 8 + (maxL + 11) + rm.locals ≤ R.locals)
    (hP : va_P D cls5 wx H) (hK : va_K D cls5 (tys3 G) s) (is : List Nat) (hs : is.filterMap (fun i => wx[i]?) = wc) (k ci : Nat) {q : vw_C} {fs : List Value} (he : wx[k]? = some (b, .inr (ci, fs))) (hc : cls5[ci]? = some q) (hq : q.1 = y.cls)
    (hn : As.length = n) (hl : lv_has ls nL lv) (hst : st0 = As.reverse ++ .ref b :: rest) (hrest : (rest.map fun v => v.category).sum ≤ 8) (hdg : decode cc pc = .ok (.invokevirtual idx, 3)) (hcs : cells ≤ R.cells ∧ slots ≤ R.slots) : va_Run p l e R s m args below meth c H locs cells slots 0 0 (F0 m pc ls st0) rest (Qc (Value.ref b :: As).toArray) free :=
  va_runV ⟨hx, hb, hml, hown, hts⟩ hM (cwVW hts hG lk hR) ⟨rP_blind, by rw [← hq]; exact va_recv hK hP hc he, fun U hU hW => ⟨rfl, hU, hP.sub is hs, va_K.moved hW.alike hK⟩⟩ rfl hn hl.1 hst (lv_room hrest) hdg hcs
theorem roS_run {Qc : Array Value → State → Outcome → State → Prop} {free : Addr → Prop} (hx : p.tables.exec = Jvm.exec) (hb : c.code = cc) (hml : c.maxLocals = nL) (hown : s.vm.findClass own = some m.cls) (hts : ∀ w ∈ Ts, w.before args s = true) (hG : Tg Ts)
    (hM : Met l y (wM y bytes maxL ret) rm (rP D G As wc H) Qc 0 0 free) (lk : LkS own idx y bytes maxL ret n) (hR : rm.cells = 0 ∧ rm.slots = 0 ∧ rm.frames + 1 ≤ R.frames ∧ 8 + (maxL + 11) + rm.locals ≤ R.locals)
    (hP : va_P D cls5 wx H) (hK : va_K D cls5 (tys3 G) s) (is : List Nat) (hs : is.filterMap (fun i => wx[i]?) = wc)
    (hn : As.length = n) (hl : lv_has ls nL lv) (hst : st0 = As.reverse ++ rest) (hrest : (rest.map fun v => v.category).sum ≤ 8) (hdg : decode cc pc = .ok (.invokestatic idx, 3)) (hcs : cells ≤ R.cells ∧ slots ≤ R.slots) : va_Run p l e R s m args below meth c H locs cells slots 0 0 (F0 m pc ls st0) rest (Qc As.toArray) free :=
  va_runS ⟨hx, hb, hml, hown, hts⟩ hM (cwSW hts hG lk hR) ⟨rP_blind, fun U hU hW => ⟨rfl, hU, hP.sub is hs, va_K.moved hW.alike hK⟩⟩ rfl hn hl.1 hst (lv_room hrest) hdg hcs
theorem wrV_run {Qc : Array Value → State → Outcome → State → Prop} {free : Addr → Prop} (hx : p.tables.exec = Jvm.exec) (hb : c.code = cc) (hml : c.maxLocals = nL) (hown : s.vm.findClass own = some m.cls) (hts : ∀ w ∈ Ts, w.before args s = true) (hG : Tg Ts)
    (hM : Met l y (wM y bytes maxL ret) rm (wP D G (.ref b :: As) wc H) Qc 0 0 free) (lk : LkV own idx y bytes maxL ret n) (hR : rm.cells = 0 ∧ rm.slots = 0 ∧ rm.frames + 1 ≤ R.frames ∧ 8 + (maxL + 11) + rm.locals ≤ R.locals)
    (hP : va_P D cls5 wx H) (hD : va_D A0 wx) (hK : va_K D cls5 (tys3 G) s) (is : List Nat) (hnd : va_nd is = true) (hs : is.map (fun i => wx[i]?) = wc.map some) (k ci : Nat) {q : vw_C} {fs : List Value} (he : wx[k]? = some (b, .inr (ci, fs))) (hc : cls5[ci]? = some q) (hq : q.1 = y.cls)
    (hn : As.length = n) (hl : lv_has ls nL lv) (hst : st0 = As.reverse ++ .ref b :: rest) (hrest : (rest.map fun v => v.category).sum ≤ 8) (hdg : decode cc pc = .ok (.invokevirtual idx, 3)) (hcs : cells ≤ R.cells ∧ slots ≤ R.slots) : va_Run p l e R s m args below meth c H locs cells slots 0 0 (F0 m pc ls st0) rest (Qc (Value.ref b :: As).toArray) free :=
  va_runV ⟨hx, hb, hml, hown, hts⟩ hM (cwVW hts hG lk hR) ⟨wP_blind, by rw [← hq]; exact va_recv hK hP hc he, fun U hU hW => ⟨rfl, hU, fun k' q' hk' => by
    have h1 : (wc.map some)[k']? = some (some q') := by rw [List.getElem?_map, hk']; rfl
    rw [← hs, List.getElem?_map] at h1
    cases hi : is[k']? with
    | none => rw [hi] at h1; cases h1
    | some i => rw [hi] at h1; exact hP i q' (by simpa using h1), (hD.sub is hnd hs).weaken (fun _ _ _ _ => trivial), va_K.moved hW.alike hK⟩⟩ rfl hn hl.1 hst (lv_room hrest) hdg hcs
theorem ro_i {v : Int32} {a : Array Value} (hr : va_Run p l e R s m args below meth c H locs cells slots 0 0 (F0 m pc ls st0) rest (rQi v H a) (rF H)) (hS : va_S A0 H0 H locs) (hA : ∀ q, H0.size ≤ q → A0 q)
    (kk : ∀ locs1 : List Loc, va_S A0 H0 H locs1 → W p l e R s m args below meth c H locs1 cells slots Q (F0 m (pc + 3) ls (.int v :: rest))) : W p l e R s m args below meth c H locs cells slots Q (F0 m pc ls st0) :=
  va_calli hr hS (fun q h1 h2 => absurd h1 (Nat.not_lt.mpr h2)) (fun q h => hA q (Nat.le_trans hS.1 h)) (fun r u t H1 locs1 ht hvm hp hb _ _ hS1 => by
    have e : H1 = H := ht.symm.trans hb
    subst e; subst hp
    exact kk locs1 hS1)
theorem ro_l {v : Int64} {a : Array Value} (hr : va_Run p l e R s m args below meth c H locs cells slots 0 0 (F0 m pc ls st0) rest (rQl v H a) (rF H)) (hS : va_S A0 H0 H locs) (hA : ∀ q, H0.size ≤ q → A0 q)
    (kk : ∀ locs1 : List Loc, va_S A0 H0 H locs1 → W p l e R s m args below meth c H locs1 cells slots Q (F0 m (pc + 3) ls (.long v :: rest))) : W p l e R s m args below meth c H locs cells slots Q (F0 m pc ls st0) :=
  va_calll hr hS (fun q h1 h2 => absurd h1 (Nat.not_lt.mpr h2)) (fun q h => hA q (Nat.le_trans hS.1 h)) (fun r u t H1 locs1 ht hvm hp hb _ _ hS1 => by
    have e : H1 = H := ht.symm.trans hb
    subst e; subst hp
    exact kk locs1 hS1)
theorem ro_r {a0 : Nat} {a : Array Value} (hr : va_Run p l e R s m args below meth c H locs cells slots 0 0 (F0 m pc ls st0) rest (rQr a0 H a) (rF H)) (hS : va_S A0 H0 H locs) (hA : ∀ q, H0.size ≤ q → A0 q)
    (kk : ∀ locs1 : List Loc, va_S A0 H0 H locs1 → W p l e R s m args below meth c H locs1 cells slots Q (F0 m (pc + 3) ls (.ref a0 :: rest))) : W p l e R s m args below meth c H locs cells slots Q (F0 m pc ls st0) :=
  va_callr hr hS (fun q h1 h2 => absurd h1 (Nat.not_lt.mpr h2)) (fun q h => hA q (Nat.le_trans hS.1 h)) (fun u ra t H1 locs1 ht hvm hp hb _ _ hS1 => by
    obtain ⟨hb1, hb2⟩ := hb
    have e : H1 = H := ht.symm.trans hb2
    subst e; subst hb1
    exact kk locs1 hS1)
theorem wr_i {S : Type} {post : Int32 → S → Prop} {w1 : S → va_W} {a : Array Value} (hr : va_Run p l e R s m args below meth c H locs cells slots 0 0 (F0 m pc ls st0) rest (wQi D post wc w1 H a) (va_A wc H.size)) (hP : va_P D cls5 wx H) (hD : va_D A0 wx) (is : List Nat) (hs : is.map (fun i => wx[i]?) = wc.map some) (hw : ∀ u, (w1 u).map (·.1) = wc.map (·.1)) (hS : va_S A0 H0 H locs) (hA : ∀ q, H0.size ≤ q → A0 q)
    (kk : ∀ (r : Int32) (u : S) (H1 : Heap) (locs1 : List Loc), post r u → va_P D cls5 (va_wr wx is (w1 u)) H1 → va_D A0 (va_wr wx is (w1 u)) → va_S A0 H0 H1 locs1 → W p l e R s m args below meth c H1 locs1 cells slots Q (F0 m (pc + 3) ls (.int r :: rest))) : W p l e R s m args below meth c H locs cells slots Q (F0 m pc ls st0) :=
  have hF := va_free (wc := wc) hD hS hA is hs
  va_calli hr hS (fun q _ h => hF q h) hF (fun r u t H1 locs1 ht hvm hp hb _ hk hS1 => by
    rw [ht] at hb
    obtain ⟨h1, h2⟩ := va_join_wr hP hD is hs (hw u) hk hb
    exact kk r u H1 locs1 hp h1 h2 hS1)
theorem wr_v {S : Type} {post : S → Prop} {w1 : S → va_W} {a : Array Value} (hr : va_Run p l e R s m args below meth c H locs cells slots 0 0 (F0 m pc ls st0) rest (wQv D post wc w1 H a) (va_A wc H.size)) (hP : va_P D cls5 wx H) (hD : va_D A0 wx) (is : List Nat) (hs : is.map (fun i => wx[i]?) = wc.map some) (hw : ∀ u, (w1 u).map (·.1) = wc.map (·.1)) (hS : va_S A0 H0 H locs) (hA : ∀ q, H0.size ≤ q → A0 q)
    (kk : ∀ (u : S) (H1 : Heap) (locs1 : List Loc), post u → va_P D cls5 (va_wr wx is (w1 u)) H1 → va_D A0 (va_wr wx is (w1 u)) → va_S A0 H0 H1 locs1 → W p l e R s m args below meth c H1 locs1 cells slots Q (F0 m (pc + 3) ls rest)) : W p l e R s m args below meth c H locs cells slots Q (F0 m pc ls st0) :=
  have hF := va_free (wc := wc) hD hS hA is hs
  va_callv hr hS (fun q _ h => hF q h) hF (fun u t H1 locs1 ht hvm hp hb _ hk hS1 => by
    rw [ht] at hb
    obtain ⟨h1, h2⟩ := va_join_wr hP hD is hs (hw u) hk hb
    exact kk u H1 locs1 hp h1 h2 hS1)
end KC
section KB
variable {l : Launch} {cc : ByteArray} {maxL d : Nat} {y : MethodName} {ret : Option FieldType} {D : va_G} {G : ClassId × ClassId × ClassId} {wc : va_W} {av : List Value} {H0 : Heap}
/-- a contract that only reads, from its body -/
theorem ro_start {Qc : Heap → Array Value → State → Outcome → State → Prop} (hy : plainName y.cls = true) (hle : (lg_sl av).length ≤ maxL)
    (body : ∀ p e s m args below meth c, p.tables.exec = Jvm.exec → c.code = cc → meth.sig.returnType = ret → (∀ w ∈ wM y cc maxL ret, w.before args s = true) → s.vm.findClass y.cls = some m.cls → meth.locks = false → c.maxLocals = maxL → va_P D cls5 wc s.heap → va_K D cls5 (tys3 G) s → (∀ q, s.heap.size ≤ q → rF s.heap q) → s.heap = H0 → ∀ ls, lv_has ls maxL (lv_args 0 av) → ∀ locs, va_S (rF s.heap) s.heap s.heap locs →
      W p l e (rmD d) s m args below meth c s.heap locs 0 0 (MQ below (Qc s.heap) args s 0 0 (rF s.heap)) (F0 m 0 ls [])) : Met l y (wM y cc maxL ret) (rmD d) (rP D G av wc H0) (Qc H0) 0 0 (rF H0) := by
  refine Met.ofW (cc := cc) (maxL := maxL) (ret := ret) hy rfl ?_
  intro p e s m args below meth c s₁ B hml hv
  obtain ⟨rfl, hsz, hP, hK⟩ := hv
  subst hsz
  have hl := lv_entry av (n := maxL) hle
  rw [lg_entry_eq]
  exact body p e s m _ below meth c B.exec B.bytes B.returns (atoms_spec (ws := wM y cc maxL ret) B.pre) (findClass_of_methodNamed B.named) B.notSynchronized hml hP hK (fun q h => h) rfl _ hl [] va_S.rf
/-- a contract that writes, from its body -/
theorem wr_start {Qc : Heap → Array Value → State → Outcome → State → Prop} (hy : plainName y.cls = true) (hle : (lg_sl av).length ≤ maxL)
    (body : ∀ p e s m args below meth c, p.tables.exec = Jvm.exec → c.code = cc → meth.sig.returnType = ret → (∀ w ∈ wM y cc maxL ret, w.before args s = true) → s.vm.findClass y.cls = some m.cls → meth.locks = false → c.maxLocals = maxL → va_K D cls5 (tys3 G) s → ∀ A : Nat → Prop, A = va_A wc s.heap.size → (∀ q, s.heap.size ≤ q → A q) → s.heap = H0 → ∀ ls, lv_has ls maxL (lv_args 0 av) → ∀ H locs, va_P D cls5 wc H → va_D A wc → va_S A s.heap H locs →
      W p l e (rmD d) s m args below meth c H locs 0 0 (MQ below (Qc s.heap) args s 0 0 A) (F0 m 0 ls [])) : Met l y (wM y cc maxL ret) (rmD d) (wP D G av wc H0) (Qc H0) 0 0 (va_A wc H0.size) := by
  refine Met.ofW (cc := cc) (maxL := maxL) (ret := ret) hy rfl ?_
  intro p e s m args below meth c s₁ B hml hv
  obtain ⟨rfl, hsz, hP, hD0, hK⟩ := hv
  subst hsz
  have hl := lv_entry av (n := maxL) hle
  rw [lg_entry_eq]
  exact body p e s m _ below meth c B.exec B.bytes B.returns (atoms_spec (ws := wM y cc maxL ret) B.pre) (findClass_of_methodNamed B.named) B.notSynchronized hml hK _ rfl (fun q h => Or.inr h) rfl _ hl s.heap [] hP hD0.self va_S.rf
end KB
section KE
variable {p : Program} {l : Launch} {e : Env} {R : Room} {s : State} {m : MethodId} {args : Array Value} {below : List Frame} {meth : Method} {c : Code} {H : Heap} {locs : List Loc} {cc : ByteArray} {pc : Nat} {ls : Array Slot} {rest : List Value} {D : va_G} {wc : va_W} {A : Nat → Prop}
theorem ro_iret {v v' : Int32} (hx : p.tables.exec = Jvm.exec) (hb : c.code = cc) (hr : meth.sig.returnType = some .int) (hlocks : meth.locks = false) (hS : va_S (rF s.heap) s.heap s.heap locs) (hdg : decode cc pc = .ok (.ireturn, 1)) (hv : v = v') : W p l e R s m args below meth c s.heap locs 0 0 (MQ below (rQi v' s.heap) args s 0 0 (rF s.heap)) (F0 m pc ls [.int v]) :=
  W.iret hx hb hr (fun t ht _ => ⟨⟨v, (), rfl, hv, ht⟩, hS.F ht⟩) hS.2.2 hdg hlocks
theorem ro_zret {v v' : Int32} (hx : p.tables.exec = Jvm.exec) (hb : c.code = cc) (hr : meth.sig.returnType = some .boolean) (hlocks : meth.locks = false) (hS : va_S (rF s.heap) s.heap s.heap locs) (hdg : decode cc pc = .ok (.ireturn, 1)) (hn : narrow .boolean (.int v) = .int v) (hv : v = v') : W p l e R s m args below meth c s.heap locs 0 0 (MQ below (rQi v' s.heap) args s 0 0 (rF s.heap)) (F0 m pc ls [.int v]) :=
  W.zret hx hb hr hn (fun t ht _ => ⟨⟨v, (), rfl, hv, ht⟩, hS.F ht⟩) hS.2.2 hdg hlocks
theorem ro_lret {v v' : Int64} (hx : p.tables.exec = Jvm.exec) (hb : c.code = cc) (hr : meth.sig.returnType = some .long) (hlocks : meth.locks = false) (hS : va_S (rF s.heap) s.heap s.heap locs) (hdg : decode cc pc = .ok (.lreturn, 1)) (hv : v = v') : W p l e R s m args below meth c s.heap locs 0 0 (MQ below (rQl v' s.heap) args s 0 0 (rF s.heap)) (F0 m pc ls [.long v]) :=
  W.lret hx hb hr (fun t ht _ => ⟨⟨v, (), rfl, hv, ht⟩, hS.F ht⟩) hS.2.2 hdg hlocks
theorem ro_aret {a0 : Nat} {C : String} (hx : p.tables.exec = Jvm.exec) (hb : c.code = cc) (hr : meth.sig.returnType = some (.object C)) (hlocks : meth.locks = false) (hS : va_S (rF s.heap) s.heap s.heap locs) (hdg : decode cc pc = .ok (.areturn, 1)) : W p l e R s m args below meth c s.heap locs 0 0 (MQ below (rQr a0 s.heap) args s 0 0 (rF s.heap)) (F0 m pc ls [.ref a0]) :=
  W.aret hx hb hr (Or.inl ⟨_, rfl⟩) (Or.inr ⟨_, rfl⟩) (fun t ht _ => ⟨⟨(), a0, rfl, trivial, rfl, ht⟩, hS.F ht⟩) hS.2.2 hdg hlocks
theorem wr_iret {S : Type} {post : Int32 → S → Prop} {w1 : S → va_W} {v : Int32} (u : S) (hx : p.tables.exec = Jvm.exec) (hb : c.code = cc) (hr : meth.sig.returnType = some .int) (hlocks : meth.locks = false) (hAe : A = va_A wc s.heap.size) (hS : va_S A s.heap H locs) (hdg : decode cc pc = .ok (.ireturn, 1)) (hP : va_P D cls5 (w1 u) H) (hv : post v u) : W p l e R s m args below meth c H locs 0 0 (MQ below (wQi D post wc w1 s.heap) args s 0 0 A) (F0 m pc ls [.int v]) := by
  subst hAe
  exact W.iret hx hb hr (fun t ht _ => ⟨⟨v, u, rfl, hv, by show va_P D cls5 (w1 u) t.heap; rw [ht]; exact hP⟩, hS.F ht⟩) hS.2.2 hdg hlocks
theorem wr_zret {S : Type} {post : Int32 → S → Prop} {w1 : S → va_W} {v : Int32} (u : S) (hx : p.tables.exec = Jvm.exec) (hb : c.code = cc) (hr : meth.sig.returnType = some .boolean) (hlocks : meth.locks = false) (hAe : A = va_A wc s.heap.size) (hS : va_S A s.heap H locs) (hdg : decode cc pc = .ok (.ireturn, 1)) (hn : narrow .boolean (.int v) = .int v) (hP : va_P D cls5 (w1 u) H) (hv : post v u) : W p l e R s m args below meth c H locs 0 0 (MQ below (wQi D post wc w1 s.heap) args s 0 0 A) (F0 m pc ls [.int v]) := by
  subst hAe
  exact W.zret hx hb hr hn (fun t ht _ => ⟨⟨v, u, rfl, hv, by show va_P D cls5 (w1 u) t.heap; rw [ht]; exact hP⟩, hS.F ht⟩) hS.2.2 hdg hlocks
theorem wr_lret {S : Type} {post : Int64 → S → Prop} {w1 : S → va_W} {v : Int64} (u : S) (hx : p.tables.exec = Jvm.exec) (hb : c.code = cc) (hr : meth.sig.returnType = some .long) (hlocks : meth.locks = false) (hAe : A = va_A wc s.heap.size) (hS : va_S A s.heap H locs) (hdg : decode cc pc = .ok (.lreturn, 1)) (hP : va_P D cls5 (w1 u) H) (hv : post v u) : W p l e R s m args below meth c H locs 0 0 (MQ below (wQl D post wc w1 s.heap) args s 0 0 A) (F0 m pc ls [.long v]) := by
  subst hAe
  exact W.lret hx hb hr (fun t ht _ => ⟨⟨v, u, rfl, hv, by show va_P D cls5 (w1 u) t.heap; rw [ht]; exact hP⟩, hS.F ht⟩) hS.2.2 hdg hlocks
theorem wr_vret {S : Type} {post : S → Prop} {w1 : S → va_W} (u : S) (hx : p.tables.exec = Jvm.exec) (hb : c.code = cc) (hr : meth.sig.returnType = none) (hlocks : meth.locks = false) (hAe : A = va_A wc s.heap.size) (hS : va_S A s.heap H locs) (hdg : decode cc pc = .ok (.return_, 1)) (hP : va_P D cls5 (w1 u) H) (hv : post u) : W p l e R s m args below meth c H locs 0 0 (MQ below (wQv D post wc w1 s.heap) args s 0 0 A) (F0 m pc ls []) := by
  subst hAe
  exact W.vret hx hb hr (fun t ht _ => ⟨⟨u, rfl, hv, by show va_P D cls5 (w1 u) t.heap; rw [ht]; exact hP⟩, hS.F ht⟩) hS.2.2 hdg hlocks
end KE
