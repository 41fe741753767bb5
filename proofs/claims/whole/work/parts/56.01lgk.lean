theorem lg_at {wl wc wr : va_W} {j : Nat} {x : Nat × va_E} (h : wc[j]? = some x) : (wl ++ (wc ++ wr))[wl.length + j]? = some x := by
  have hj : j < wc.length := (List.getElem?_eq_some_iff.mp h).1
  rw [List.getElem?_append_right (by omega), Nat.add_sub_cancel_left, List.getElem?_append_left hj]
  exact h
theorem lg_al {wl wx : va_W} {j : Nat} {x : Nat × va_E} (h : wl[j]? = some x) : (wl ++ wx)[j]? = some x := by
  have hj : j < wl.length := (List.getElem?_eq_some_iff.mp h).1
  rw [List.getElem?_append_left hj]
  exact h
theorem lg_ar {wl wc wr : va_W} {j : Nat} {x : Nat × va_E} (h : wr[j]? = some x) : (wl ++ (wc ++ wr))[wl.length + (wc.length + j)]? = some x := by
  rw [List.getElem?_append_right (by omega), Nat.add_sub_cancel_left, List.getElem?_append_right (by omega), Nat.add_sub_cancel_left]
  exact h
theorem lg_P {D : va_G} {wl wc wr : va_W} {H : Heap} (hP : va_P D cls5 (wl ++ (wc ++ wr)) H) : va_P D cls5 wc H := fun k q h => hP _ q (lg_at h)
theorem lg_D {A : Nat → Prop} {wl wc wr : va_W} (hD : va_D A (wl ++ (wc ++ wr))) : va_D A wc :=
  ⟨fun i j p q h1 h2 e => by have := hD.1 _ _ p q (lg_at h1) (lg_at h2) e; omega, fun k q h => hD.2 _ q (lg_at h)⟩
section LGK
variable {p : Program} {l : Launch} {e : Env} {R : Room} {s : State} {m : MethodId} {args : Array Value} {below : List Frame} {meth : Method} {c : Code} {H : Heap} {locs : List Loc} {cells slots : Nat} {Q : State → Prop}
variable {Ts : List Cond} {cc bytes : ByteArray} {nL maxL idx n : Nat} {own : String} {y : MethodName} {ret : Option FieldType} {rm : Room} {D : va_G} {G : ClassId × ClassId × ClassId} {K : (Nat → Nat) × (Nat → Nat)} {wl wc wr : va_W} {b : Addr} {As rest : List Value} {pc : Nat} {ls : Array Slot} {st0 : List Value} {A0 : Nat → Prop} {H0 : Heap} {lv : List (Nat × Value)}
theorem lg_F (hD : va_D A0 wc) (hS : va_S A0 H0 H locs) (hA : ∀ q, H0.size ≤ q → A0 q) : ∀ q, va_A wc H.size q → A0 q := by
  rintro q (⟨j, e, hj⟩ | h)
  · exact hD.2 j _ hj
  · exact hA q (Nat.le_trans hS.1 h)
theorem lgZ_run {Qc : Array Value → State → Outcome → State → Prop} {free : Addr → Prop} (hx : p.tables.exec = Jvm.exec) (hb : c.code = cc) (hml : c.maxLocals = nL) (hown : s.vm.findClass own = some m.cls) (hts : ∀ w ∈ Ts, w.before args s = true) (hG : Tg Ts)
    (hM : Met l y (wM y bytes maxL ret) rm (zwP D G K (.ref b :: As) wc H) Qc 0 0 free) (lk : LkV own idx y bytes maxL ret n) (hR : rm.cells = 0 ∧ rm.slots = 0 ∧ rm.frames + 1 ≤ R.frames ∧ 8 + (maxL + 11) + rm.locals ≤ R.locals)
    (hP : va_P D cls5 wc H) (hD : va_D A0 wc) (hK : va_K D cls5 (tys3 G) s) (hZ : ZS K A0 s s.heap) (hS : va_S A0 s.heap H locs) (hA : ∀ q, s.heap.size ≤ q → A0 q) (hrecv : ∃ cellB : Cell, H[b]? = some cellB ∧ cellB.vm.isStatics = false ∧ s.vm.findClass y.cls = some cellB.cls)
    (hn : As.length = n) (hl : lv_has ls nL lv) (hst : st0 = As.reverse ++ .ref b :: rest) (hrest : (rest.map fun v => v.category).sum ≤ 8) (hdg : decode cc pc = .ok (.invokevirtual idx, 3)) (hcs : cells ≤ R.cells ∧ slots ≤ R.slots) : va_Run p l e R s m args below meth c H locs cells slots 0 0 (F0 m pc ls st0) rest (Qc (Value.ref b :: As).toArray) free :=
  va_runV ⟨hx, hb, hml, hown, hts⟩ hM (cwVW hts hG lk hR) ⟨zwP_blind, hrecv, fun U hU hW => ⟨rfl, hU, hP, hD.weaken (fun _ _ _ _ => trivial), va_K.moved hW.alike hK, hZ.into hS hW (lg_F hD hS hA)⟩⟩ rfl hn hl.1 hst (lv_room hrest) hdg hcs
theorem lgW_run {Qc : Array Value → State → Outcome → State → Prop} {free : Addr → Prop} (hx : p.tables.exec = Jvm.exec) (hb : c.code = cc) (hml : c.maxLocals = nL) (hown : s.vm.findClass own = some m.cls) (hts : ∀ w ∈ Ts, w.before args s = true) (hG : Tg Ts)
    (hM : Met l y (wM y bytes maxL ret) rm (wP D G (.ref b :: As) wc H) Qc 0 0 free) (lk : LkV own idx y bytes maxL ret n) (hR : rm.cells = 0 ∧ rm.slots = 0 ∧ rm.frames + 1 ≤ R.frames ∧ 8 + (maxL + 11) + rm.locals ≤ R.locals)
    (hP : va_P D cls5 wc H) (hD : va_D A0 wc) (hK : va_K D cls5 (tys3 G) s) (hrecv : ∃ cellB : Cell, H[b]? = some cellB ∧ cellB.vm.isStatics = false ∧ s.vm.findClass y.cls = some cellB.cls)
    (hn : As.length = n) (hl : lv_has ls nL lv) (hst : st0 = As.reverse ++ .ref b :: rest) (hrest : (rest.map fun v => v.category).sum ≤ 8) (hdg : decode cc pc = .ok (.invokevirtual idx, 3)) (hcs : cells ≤ R.cells ∧ slots ≤ R.slots) : va_Run p l e R s m args below meth c H locs cells slots 0 0 (F0 m pc ls st0) rest (Qc (Value.ref b :: As).toArray) free :=
  va_runV ⟨hx, hb, hml, hown, hts⟩ hM (cwVW hts hG lk hR) ⟨wP_blind, hrecv, fun U hU hW => ⟨rfl, hU, hP, hD.weaken (fun _ _ _ _ => trivial), va_K.moved hW.alike hK⟩⟩ rfl hn hl.1 hst (lv_room hrest) hdg hcs
theorem lg_call {S : Type} {post : Int32 → S → Prop} {w1 : S → va_W} {a : Array Value} (hr : va_Run p l e R s m args below meth c H locs cells slots 0 0 (F0 m pc ls st0) rest (wQi D post wc w1 H a) (va_A wc H.size)) (hP : va_P D cls5 (wl ++ (wc ++ wr)) H) (hD : va_D A0 (wl ++ (wc ++ wr))) (hw : ∀ u, (w1 u).map (·.1) = wc.map (·.1)) (hS : va_S A0 H0 H locs) (hA : ∀ q, H0.size ≤ q → A0 q)
    (kk : ∀ (r : Int32) (u : S) (H1 : Heap) (locs1 : List Loc), post r u → va_P D cls5 (wl ++ (w1 u ++ wr)) H1 → va_D A0 (wl ++ (w1 u ++ wr)) → va_S A0 H0 H1 locs1 → W p l e R s m args below meth c H1 locs1 cells slots Q (F0 m (pc + 3) ls (.int r :: rest))) : W p l e R s m args below meth c H locs cells slots Q (F0 m pc ls st0) :=
  have hF := lg_F (lg_D hD) hS hA
  va_calli hr hS (fun q _ h => hF q h) hF (fun r u t H1 locs1 ht hvm hp hb _ hk hS1 => by
    rw [ht] at hb
    refine kk r u H1 locs1 hp (va_P.app (fun k q h => ?_) (va_P.app hb (fun k q h => ?_))) (hD.same (by rw [List.map_append, List.map_append, List.map_append, List.map_append, hw u])) hS1
    · have h1 := hP _ q (lg_al h)
      refine h1.kept (hk q.1 h1.lt ?_)
      rintro (⟨j, e, hj⟩ | hz)
      · have h2 := hD.1 _ _ _ _ (lg_al h) (lg_at hj) rfl
        have h3 : k < wl.length := (List.getElem?_eq_some_iff.mp h).1
        omega
      · exact absurd h1.lt (Nat.not_lt.mpr hz)
    · have h1 := hP _ q (lg_ar h)
      refine h1.kept (hk q.1 h1.lt ?_)
      rintro (⟨j, e, hj⟩ | hz)
      · have h2 := hD.1 _ _ _ _ (lg_ar h) (lg_at hj) rfl
        have h3 : j < wc.length := (List.getElem?_eq_some_iff.mp hj).1
        omega
      · exact absurd h1.lt (Nat.not_lt.mpr hz))
end LGK
