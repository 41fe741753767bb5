/-! String constants: what is known of them, carried through the calls -/
def wdL : Nat → List Nat
  | 0 => [108, 111, 97, 100]
  | 1 => [116, 97, 115, 116, 101, 114]
  | _ => [104, 101, 97, 116]
def lenW : List Nat := [4, 6, 4]
def bytW : List (List Int32) := [[108, 111, 97, 100], [116, 97, 115, 116, 101, 114], [104, 101, 97, 116]]
def ZS (K : (Nat → Nat) × (Nat → Nat)) (A : Nat → Prop) (U : State) (H : Heap) : Prop := vk_S 3 lenW bytW K.1 K.2 A U H ∧ va_Z "java/lang/String" "COMPACT_STRINGS" "Z" (.int 1) A U H ∧ va_Zq "jdk/internal/util/Preconditions" "SIOOBE_FORMATTER" "Ljava/util/function/BiFunction;" A U H ∧ vk_R RX2 114 "load" (K.1 0) U ∧ vk_R RX2 120 "taster" (K.1 1) U ∧ vk_R RX2 122 "heat" (K.1 2) U
theorem ZS.calling {K : (Nat → Nat) × (Nat → Nat)} {A : Nat → Prop} {U : State} {H : Heap} (h : ZS K A U H) (g : JFrame) (mk : MethodId) (a : Array Value) : ZS K A (U.calling g mk a) H := by
  obtain ⟨h1, h2, h3, h4, h5, h6⟩ := h
  exact ⟨vk_S.moved (u := U) (Vm.Alike.refl U.vm) h1, va_Z.moved (u := U) (Vm.Alike.refl U.vm) h2, va_Zq.moved (u := U) (Vm.Alike.refl U.vm) h3, vk_R.same (u := U) rfl h4, vk_R.same (u := U) rfl h5, vk_R.same (u := U) rfl h6⟩
theorem ZS.into {K : (Nat → Nat) × (Nat → Nat)} {A B : Nat → Prop} {s U : State} {H : Heap} {locs : List Loc} (h : ZS K A s s.heap) (hS : va_S A s.heap H locs) (hW : s.WarmedH U.vm) (hAB : ∀ q, B q → A q) : ZS K B U H := by
  obtain ⟨h1, h2, h3, h4, h5, h6⟩ := h
  exact ⟨(vk_S.moved hW.alike (h1.kept hS.2.1)).narrow hAB, (va_Z.moved hW.alike (h2.kept hS.2.1)).narrow hAB, (va_Zq.moved hW.alike (h3.kept hS.2.1)).narrow hAB, vk_R.warm hW h4, vk_R.warm hW h5, vk_R.warm hW h6⟩
abbrev zrP (D : va_G) (G : ClassId × ClassId × ClassId) (K : (Nat → Nat) × (Nat → Nat)) (av : List Value) (wc : va_W) (H0 : Heap) : Array Value → State → Prop := va_Pc av (fun U => U.heap = H0 ∧ va_P D cls5 wc H0 ∧ va_K D cls5 (tys3 G) U ∧ ZS K (rF H0) U H0)
abbrev zwP (D : va_G) (G : ClassId × ClassId × ClassId) (K : (Nat → Nat) × (Nat → Nat)) (av : List Value) (wc : va_W) (H0 : Heap) : Array Value → State → Prop := va_Pc av (fun U => U.heap = H0 ∧ va_P D cls5 wc H0 ∧ va_D (fun _ => True) wc ∧ va_K D cls5 (tys3 G) U ∧ ZS K (va_A wc H0.size) U H0)
abbrev rQv (H0 : Heap) : Array Value → State → Outcome → State → Prop := va_Qv (fun (_ : Unit) => True) (fun _ t => t.heap = H0) (fun q => H0.size ≤ q)
theorem zrP_blind {D : va_G} {G : ClassId × ClassId × ClassId} {K : (Nat → Nat) × (Nat → Nat)} {av : List Value} {wc : va_W} {H0 : Heap} : FrameBlind (zrP D G K av wc H0) := fun a U g mk q => ⟨q.1, q.2.1, q.2.2.1, va_K.moved (u := U) (U := U.calling g mk a) (Vm.Alike.refl U.vm) q.2.2.2.1, q.2.2.2.2.calling g mk a⟩
theorem zwP_blind {D : va_G} {G : ClassId × ClassId × ClassId} {K : (Nat → Nat) × (Nat → Nat)} {av : List Value} {wc : va_W} {H0 : Heap} : FrameBlind (zwP D G K av wc H0) := fun a U g mk q => ⟨q.1, q.2.1, q.2.2.1, q.2.2.2.1, va_K.moved (u := U) (U := U.calling g mk a) (Vm.Alike.refl U.vm) q.2.2.2.2.1, q.2.2.2.2.2.calling g mk a⟩
section ZC
variable {p : Program} {l : Launch} {e : Env} {R : Room} {s : State} {m : MethodId} {args : Array Value} {below : List Frame} {meth : Method} {c : Code} {H : Heap} {locs : List Loc} {cells slots : Nat} {Q : State → Prop}
variable {Ts : List Cond} {cc bytes : ByteArray} {nL maxL idx n : Nat} {own : String} {y : MethodName} {ret : Option FieldType} {rm : Room} {D : va_G} {G : ClassId × ClassId × ClassId} {K : (Nat → Nat) × (Nat → Nat)} {wx wc : va_W} {b : Addr} {As rest : List Value} {pc : Nat} {ls : Array Slot} {st0 : List Value} {A0 : Nat → Prop} {H0 : Heap} {lv : List (Nat × Value)}
theorem zrV_run {Qc : Array Value → State → Outcome → State → Prop} {free : Addr → Prop} (hx : p.tables.exec = Jvm.exec) (hb : c.code = cc) (hml : c.maxLocals = nL) (hown : s.vm.findClass own = some m.cls) (hts : ∀ w ∈ Ts, w.before args s = true) (hG : Tg Ts)
    (hM : Met l y (wM y bytes maxL ret) rm (zrP D G K (.ref b :: As) wc H) Qc 0 0 free) (lk : LkV own idx y bytes maxL ret n) (hR : rm.cells = 0 ∧ rm.slots = 0 ∧ rm.frames + 1 ≤ R.frames ∧ 8 + (maxL + 11) + rm.locals ≤ R.locals)
    (hP : va_P D cls5 wx H) (hK : va_K D cls5 (tys3 G) s) (hZ : ZS K A0 s s.heap) (hS : va_S A0 s.heap H locs) (hA : ∀ q, s.heap.size ≤ q → A0 q) (is : List Nat) (hs : is.filterMap (fun i => wx[i]?) = wc) (hrecv : ∃ cellB : Cell, H[b]? = some cellB ∧ cellB.vm.isStatics = false ∧ s.vm.findClass y.cls = some cellB.cls)
    (hn : As.length = n) (hl : lv_has ls nL lv) (hst : st0 = As.reverse ++ .ref b :: rest) (hrest : (rest.map fun v => v.category).sum ≤ 8) (hdg : decode cc pc = .ok (.invokevirtual idx, 3)) (hcs : cells ≤ R.cells ∧ slots ≤ R.slots) : va_Run p l e R s m args below meth c H locs cells slots 0 0 (F0 m pc ls st0) rest (Qc (Value.ref b :: As).toArray) free :=
  va_runV ⟨hx, hb, hml, hown, hts⟩ hM (cwVW hts hG lk hR) ⟨zrP_blind, hrecv, fun U hU hW => ⟨rfl, hU, hP.sub is hs, va_K.moved hW.alike hK, hZ.into hS hW (fun q h => hA q (Nat.le_trans hS.1 h))⟩⟩ rfl hn hl.1 hst (lv_room hrest) hdg hcs
theorem zrS_run {Qc : Array Value → State → Outcome → State → Prop} {free : Addr → Prop} (hx : p.tables.exec = Jvm.exec) (hb : c.code = cc) (hml : c.maxLocals = nL) (hown : s.vm.findClass own = some m.cls) (hts : ∀ w ∈ Ts, w.before args s = true) (hG : Tg Ts)
    (hM : Met l y (wM y bytes maxL ret) rm (zrP D G K As wc H) Qc 0 0 free) (lk : LkS own idx y bytes maxL ret n) (hR : rm.cells = 0 ∧ rm.slots = 0 ∧ rm.frames + 1 ≤ R.frames ∧ 8 + (maxL + 11) + rm.locals ≤ R.locals)
    (hP : va_P D cls5 wx H) (hK : va_K D cls5 (tys3 G) s) (hZ : ZS K A0 s s.heap) (hS : va_S A0 s.heap H locs) (hA : ∀ q, s.heap.size ≤ q → A0 q) (is : List Nat) (hs : is.filterMap (fun i => wx[i]?) = wc)
    (hn : As.length = n) (hl : lv_has ls nL lv) (hst : st0 = As.reverse ++ rest) (hrest : (rest.map fun v => v.category).sum ≤ 8) (hdg : decode cc pc = .ok (.invokestatic idx, 3)) (hcs : cells ≤ R.cells ∧ slots ≤ R.slots) : va_Run p l e R s m args below meth c H locs cells slots 0 0 (F0 m pc ls st0) rest (Qc As.toArray) free :=
  va_runS ⟨hx, hb, hml, hown, hts⟩ hM (cwSW hts hG lk hR) ⟨zrP_blind, fun U hU hW => ⟨rfl, hU, hP.sub is hs, va_K.moved hW.alike hK, hZ.into hS hW (fun q h => hA q (Nat.le_trans hS.1 h))⟩⟩ rfl hn hl.1 hst (lv_room hrest) hdg hcs
theorem zwV_run {Qc : Array Value → State → Outcome → State → Prop} {free : Addr → Prop} (hx : p.tables.exec = Jvm.exec) (hb : c.code = cc) (hml : c.maxLocals = nL) (hown : s.vm.findClass own = some m.cls) (hts : ∀ w ∈ Ts, w.before args s = true) (hG : Tg Ts)
    (hM : Met l y (wM y bytes maxL ret) rm (zwP D G K (.ref b :: As) wc H) Qc 0 0 free) (lk : LkV own idx y bytes maxL ret n) (hR : rm.cells = 0 ∧ rm.slots = 0 ∧ rm.frames + 1 ≤ R.frames ∧ 8 + (maxL + 11) + rm.locals ≤ R.locals)
    (hP : va_P D cls5 wx H) (hD : va_D A0 wx) (hK : va_K D cls5 (tys3 G) s) (hZ : ZS K A0 s s.heap) (hS : va_S A0 s.heap H locs) (hA : ∀ q, s.heap.size ≤ q → A0 q) (is : List Nat) (hnd : va_nd is = true) (hs : is.map (fun i => wx[i]?) = wc.map some) (hrecv : ∃ cellB : Cell, H[b]? = some cellB ∧ cellB.vm.isStatics = false ∧ s.vm.findClass y.cls = some cellB.cls)
    (hn : As.length = n) (hl : lv_has ls nL lv) (hst : st0 = As.reverse ++ .ref b :: rest) (hrest : (rest.map fun v => v.category).sum ≤ 8) (hdg : decode cc pc = .ok (.invokevirtual idx, 3)) (hcs : cells ≤ R.cells ∧ slots ≤ R.slots) : va_Run p l e R s m args below meth c H locs cells slots 0 0 (F0 m pc ls st0) rest (Qc (Value.ref b :: As).toArray) free :=
  va_runV ⟨hx, hb, hml, hown, hts⟩ hM (cwVW hts hG lk hR) ⟨zwP_blind, hrecv, fun U hU hW => ⟨rfl, hU, fun k' q' hk' => by
    have h1 : (wc.map some)[k']? = some (some q') := by rw [List.getElem?_map, hk']; rfl
    rw [← hs, List.getElem?_map] at h1
    cases hi : is[k']? with
    | none => rw [hi] at h1; cases h1
    | some i => rw [hi] at h1; exact hP i q' (by simpa using h1), (hD.sub is hnd hs).weaken (fun _ _ _ _ => trivial), va_K.moved hW.alike hK, hZ.into hS hW (va_free (wc := wc) hD hS hA is hs)⟩⟩ rfl hn hl.1 hst (lv_room hrest) hdg hcs
theorem ro_v {a : Array Value} (hr : va_Run p l e R s m args below meth c H locs cells slots 0 0 (F0 m pc ls st0) rest (rQv H a) (rF H)) (hS : va_S A0 H0 H locs) (hA : ∀ q, H0.size ≤ q → A0 q)
    (kk : ∀ locs1 : List Loc, va_S A0 H0 H locs1 → W p l e R s m args below meth c H locs1 cells slots Q (F0 m (pc + 3) ls rest)) : W p l e R s m args below meth c H locs cells slots Q (F0 m pc ls st0) :=
  va_callv hr hS (fun q h1 h2 => absurd h1 (Nat.not_lt.mpr h2)) (fun q h => hA q (Nat.le_trans hS.1 h)) (fun u t H1 locs1 ht hvm hp hb _ _ hS1 => by
    have e : H1 = H := ht.symm.trans hb
    subst e
    exact kk locs1 hS1)
end ZC
section ZB
variable {l : Launch} {cc : ByteArray} {maxL d : Nat} {y : MethodName} {ret : Option FieldType} {D : va_G} {G : ClassId × ClassId × ClassId} {K : (Nat → Nat) × (Nat → Nat)} {wc : va_W} {av : List Value} {H0 : Heap}
theorem zr_start {Qc : Heap → Array Value → State → Outcome → State → Prop} (hy : plainName y.cls = true) (hle : (lg_sl av).length ≤ maxL)
    (body : ∀ p e s m args below meth c, p.tables.exec = Jvm.exec → c.code = cc → meth.sig.returnType = ret → (∀ w ∈ wM y cc maxL ret, w.before args s = true) → s.vm.findClass y.cls = some m.cls → meth.locks = false → c.maxLocals = maxL → va_P D cls5 wc s.heap → va_K D cls5 (tys3 G) s → (∀ q, s.heap.size ≤ q → rF s.heap q) → s.heap = H0 → ∀ ls, lv_has ls maxL (lv_args 0 av) → ∀ locs, va_S (rF s.heap) s.heap s.heap locs → ZS K (rF s.heap) s s.heap →
      W p l e (rmD d) s m args below meth c s.heap locs 0 0 (MQ below (Qc s.heap) args s 0 0 (rF s.heap)) (F0 m 0 ls [])) : Met l y (wM y cc maxL ret) (rmD d) (zrP D G K av wc H0) (Qc H0) 0 0 (rF H0) := by
  refine Met.ofW (cc := cc) (maxL := maxL) (ret := ret) hy rfl ?_
  intro p e s m args below meth c s₁ B hml hv
  obtain ⟨rfl, hsz, hP, hK, hZ⟩ := hv
  subst hsz
  have hl := lv_entry av (n := maxL) hle
  rw [lg_entry_eq]
  exact body p e s m _ below meth c B.exec B.bytes B.returns (atoms_spec (ws := wM y cc maxL ret) B.pre) (findClass_of_methodNamed B.named) B.notSynchronized hml hP hK (fun q h => h) rfl _ hl [] va_S.rf hZ
theorem zw_start {Qc : Heap → Array Value → State → Outcome → State → Prop} (hy : plainName y.cls = true) (hle : (lg_sl av).length ≤ maxL)
    (body : ∀ p e s m args below meth c, p.tables.exec = Jvm.exec → c.code = cc → meth.sig.returnType = ret → (∀ w ∈ wM y cc maxL ret, w.before args s = true) → s.vm.findClass y.cls = some m.cls → meth.locks = false → c.maxLocals = maxL → va_K D cls5 (tys3 G) s → ∀ A : Nat → Prop, A = va_A wc s.heap.size → (∀ q, s.heap.size ≤ q → A q) → s.heap = H0 → ∀ ls, lv_has ls maxL (lv_args 0 av) → ∀ H locs, va_P D cls5 wc H → va_D A wc → va_S A s.heap H locs → ZS K A s s.heap →
      W p l e (rmD d) s m args below meth c H locs 0 0 (MQ below (Qc s.heap) args s 0 0 A) (F0 m 0 ls [])) : Met l y (wM y cc maxL ret) (rmD d) (zwP D G K av wc H0) (Qc H0) 0 0 (va_A wc H0.size) := by
  refine Met.ofW (cc := cc) (maxL := maxL) (ret := ret) hy rfl ?_
  intro p e s m args below meth c s₁ B hml hv
  obtain ⟨rfl, hsz, hP, hD0, hK, hZ⟩ := hv
  subst hsz
  have hl := lv_entry av (n := maxL) hle
  rw [lg_entry_eq]
  exact body p e s m _ below meth c B.exec B.bytes B.returns (atoms_spec (ws := wM y cc maxL ret) B.pre) (findClass_of_methodNamed B.named) B.notSynchronized hml hK _ rfl (fun q h => Or.inr h) rfl _ hl s.heap [] hP hD0.self va_S.rf hZ
end ZB
section ZE
variable {p : Program} {l : Launch} {e : Env} {R : Room} {s : State} {m : MethodId} {args : Array Value} {below : List Frame} {meth : Method} {c : Code} {H : Heap} {locs : List Loc} {cc : ByteArray} {pc : Nat} {ls : Array Slot} {rest : List Value}
theorem ro_xret {v v' : Int32} {ty : FieldType} (hx : p.tables.exec = Jvm.exec) (hb : c.code = cc) (hr : meth.sig.returnType = some ty) (hlocks : meth.locks = false) (hS : va_S (rF s.heap) s.heap s.heap locs) (hdg : decode cc pc = .ok (.ireturn, 1)) (hn : narrow ty (.int v) = .int v) (hv : v = v') : W p l e R s m args below meth c s.heap locs 0 0 (MQ below (rQi v' s.heap) args s 0 0 (rF s.heap)) (F0 m pc ls [.int v]) :=
  W.zret hx hb hr hn (fun t ht _ => ⟨⟨v, (), rfl, hv, ht⟩, hS.F ht⟩) hS.2.2 hdg hlocks
theorem ro_vret (hx : p.tables.exec = Jvm.exec) (hb : c.code = cc) (hr : meth.sig.returnType = none) (hlocks : meth.locks = false) (hS : va_S (rF s.heap) s.heap s.heap locs) (hdg : decode cc pc = .ok (.return_, 1)) : W p l e R s m args below meth c s.heap locs 0 0 (MQ below (rQv s.heap) args s 0 0 (rF s.heap)) (F0 m pc ls []) :=
  W.vret hx hb hr (fun t ht _ => ⟨⟨(), rfl, trivial, ht⟩, hS.F ht⟩) hS.2.2 hdg hlocks
end ZE
theorem wd_byte : ∀ i, i < 3 → ∀ k, k < lenW.getD i 0 → (((bytW.getD i []).getD k 0) &&& 255) = nI ((wdL i).getD k 0) ∧ (wdL i).getD k 0 < 256 := by decide +kernel
theorem wd_len : ∀ i, i < 3 → (wdL i).length = lenW.getD i 0 ∧ lenW.getD i 0 ≤ 6 := by decide +kernel
