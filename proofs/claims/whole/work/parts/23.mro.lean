set_option maxHeartbeats 4000000 in
set_option maxRecDepth 100000 in
theorem c_X5_in (l : Launch) (D : va_G) (G : ClassId × ClassId × ClassId) (H0 : Heap) (x lo hi : Int32)  : Met l yX5_in (wM yX5_in cX5_in 3 (some .boolean)) (rmD 1) (rP D G [.int (x), .int (lo), .int (hi)] [] H0) (rQi (bI (inR x lo hi)) H0) 0 0 (rF H0) := by
  refine ro_start (Qc := fun H0 => (rQi (bI (inR x lo hi)) H0)) (by decide) (Nat.le_of_ble_eq_true rfl) ?_
  intro p e s m args below meth c hx hb hr hts hown hlocks hml hP hK hA hH0 ls hl locs hS
  have hl : lv_has ls 3 [(0, .int (x)), (1, .int (lo)), (2, .int (hi))] := hl
  refine lv_iload_n hx hb dX5_in_0 rfl (lv_at hl 0 rfl) ?_
  refine lv_iload_n hx hb dX5_in_1 rfl (lv_at hl 1 rfl) ?_
  refine lv_icmp_lt (tgt := 14) hx hb dX5_in_2 (by decide) (fun c_2 => ?_) (fun c_2 => ?_)
  · refine lv_iconst (v := nI (0)) hx hb dX5_in_14 (by decide) ?_
    exact ro_zret hx hb hr hlocks hS dX5_in_15 (rfl) (bI_of_f (decide_eq_false (fun q => absurd q.1 (Int32.not_le.mpr c_2))))
  · refine lv_iload_n hx hb dX5_in_5 rfl (lv_at hl 0 rfl) ?_
    refine lv_iload_n hx hb dX5_in_6 rfl (lv_at hl 2 rfl) ?_
    refine lv_icmp_gt (tgt := 14) hx hb dX5_in_7 (by decide) (fun c_7 => ?_) (fun c_7 => ?_)
    · refine lv_iconst (v := nI (0)) hx hb dX5_in_14 (by decide) ?_
      exact ro_zret hx hb hr hlocks hS dX5_in_15 (rfl) (bI_of_f (decide_eq_false (fun q => absurd q.2 (Int32.not_le.mpr c_7))))
    · refine lv_iconst (v := nI (1)) hx hb dX5_in_10 (by decide) ?_
      refine lv_goto (tgt := 15) hx hb dX5_in_11 (by decide) ?_
      exact ro_zret hx hb hr hlocks hS dX5_in_15 (rfl) (bI_of_t (decide_eq_true ⟨Int32.not_lt.mp c_2, Int32.not_lt.mp c_7⟩))

set_option maxHeartbeats 4000000 in
set_option maxRecDepth 100000 in
theorem c_X5_isLoad (l : Launch) (D : va_G) (G : ClassId × ClassId × ClassId) (H0 : Heap) (am n : Nat → Nat) (f : Nat → Nat → Nat) (k : Nat → Nat) (g : Nat → Nat → Nat) (j : Nat → Nat) (tx : Nat → Int32) (fl : Int32) (hh : Bool) (kp : Nat → Bool) (tr : Int64) (q : Nat) (i : Int32) (hI : XI n f k q) (hM : RQ n f k g) : Met l yX5_isLoad (wM yX5_isLoad cX5_isLoad 2 (some .boolean)) (rmD 2) (rP D G [.ref (am 0), .int (i)] [(am 0, .inr (4, [.long (tr), .ref (am 1), .int (nI (j 0)), .ref (am 2), .ref (am 3), .ref (am 4), .ref (am 5), .ref (am 6), .ref (am 7), .ref (am 8), .ref (am 9), .int (nI (j 1)), .int (nI (j 2)), .int (nI (j 3)), .int (nI (j 4)), .int (fl), .int (bI (hh)), .ref (am 10), .ref (am 11), .ref (am 12), .int (nI (j 5))])), (am 2, .inl (G.1, 2, .inl (nF (g 2))))] H0) (rQi (bI (hasB i (n 4))) H0) 0 0 (rF H0) := by
  refine ro_start (Qc := fun H0 => (rQi (bI (hasB i (n 4))) H0)) (by decide) (Nat.le_of_ble_eq_true rfl) ?_
  intro p e s m args below meth c hx hb hr hts hown hlocks hml hP hK hA hH0 ls hl locs hS
  have hl : lv_has ls 2 [(0, .ref (am 0)), (1, .int (i))] := hl
  have hI0 := hI
  have hM0 := hM
  obtain ⟨i4, i5, i6, iq, iw, il, i7, i8, ih9, ik, iF⟩ := hI
  obtain ⟨m2, m3, m4, m5, m0, m6, m7, m8⟩ := hM
  refine lv_iload_n hx hb dX5_isLoad_0 rfl (lv_at hl 1 rfl) ?_
  refine lv_iconst (v := nI (0)) hx hb dX5_isLoad_1 (by decide) ?_
  refine lv_aload_n hx hb dX5_isLoad_2 rfl (lv_at hl 0 rfl) ?_
  refine va_get (D := D) (ci := 4) (v := .ref (am 2)) (C := RX5) (T := TX5) (N := 21) hx hb hts (iX5) hown hK hP 0 rfl rfl 3 (by decide) (hts _ (List.mem_cons_of_mem _ wt_603)) (fun _ h9 => h9) rfl dX5_isLoad_3 ?_
  refine lv_iconst (v := nI (0)) hx hb dX5_isLoad_6 (by decide) ?_
  refine n_iald hx hb hK hP 1 (f := g 2) rfl (by omega) dX5_isLoad_7 ?_
  refine n_tope (show nI (g 2 0) = nI (n 4) from congrArg nI (m2)) ?_
  refine lv_iconst (v := nI (1)) hx hb dX5_isLoad_8 (by decide) ?_
  refine lv_isub hx hb dX5_isLoad_9 ?_
  refine ro_i (roS_run (As := [.int (i), .int (nI 0), .int (nI (n 4) - nI (1))]) (rest := []) hx hb hml hown hts Tg_M (c_X5_in l D G _ (i) (nI (0)) (nI (n 4) - nI (1))) lk_RX5_52 ⟨rfl, rfl, Nat.le_of_ble_eq_true rfl, Nat.le_of_ble_eq_true rfl⟩ hP hK [] rfl rfl hl rfl (Nat.le_of_ble_eq_true rfl) dX5_isLoad_10 ⟨Nat.le_of_ble_eq_true rfl, Nat.le_of_ble_eq_true rfl⟩) hS hA (fun locs hS => ?_)
  refine n_tope (show bI (inR (i) (nI (0)) (nI (n 4) - nI (1))) = bI (hasB i (n 4)) from by rw [inR_has (by omega)]) ?_
  exact ro_zret hx hb hr hlocks hS dX5_isLoad_13 (narrow_bI _) (rfl)

set_option maxHeartbeats 4000000 in
set_option maxRecDepth 100000 in
theorem c_X5_isTaster (l : Launch) (D : va_G) (G : ClassId × ClassId × ClassId) (H0 : Heap) (am n : Nat → Nat) (f : Nat → Nat → Nat) (k : Nat → Nat) (g : Nat → Nat → Nat) (j : Nat → Nat) (tx : Nat → Int32) (fl : Int32) (hh : Bool) (kp : Nat → Bool) (tr : Int64) (q : Nat) (i : Int32) (hI : XI n f k q) (hM : RQ n f k g) : Met l yX5_isTaster (wM yX5_isTaster cX5_isTaster 2 (some .boolean)) (rmD 2) (rP D G [.ref (am 0), .int (i)] [(am 0, .inr (4, [.long (tr), .ref (am 1), .int (nI (j 0)), .ref (am 2), .ref (am 3), .ref (am 4), .ref (am 5), .ref (am 6), .ref (am 7), .ref (am 8), .ref (am 9), .int (nI (j 1)), .int (nI (j 2)), .int (nI (j 3)), .int (nI (j 4)), .int (fl), .int (bI (hh)), .ref (am 10), .ref (am 11), .ref (am 12), .int (nI (j 5))])), (am 4, .inl (G.1, 2, .inl (nF (g 4))))] H0) (rQi (bI (hasB i (n 5))) H0) 0 0 (rF H0) := by
  refine ro_start (Qc := fun H0 => (rQi (bI (hasB i (n 5))) H0)) (by decide) (Nat.le_of_ble_eq_true rfl) ?_
  intro p e s m args below meth c hx hb hr hts hown hlocks hml hP hK hA hH0 ls hl locs hS
  have hl : lv_has ls 2 [(0, .ref (am 0)), (1, .int (i))] := hl
  have hI0 := hI
  have hM0 := hM
  obtain ⟨i4, i5, i6, iq, iw, il, i7, i8, ih9, ik, iF⟩ := hI
  obtain ⟨m2, m3, m4, m5, m0, m6, m7, m8⟩ := hM
  refine lv_iload_n hx hb dX5_isTaster_0 rfl (lv_at hl 1 rfl) ?_
  refine lv_iconst (v := nI (0)) hx hb dX5_isTaster_1 (by decide) ?_
  refine lv_aload_n hx hb dX5_isTaster_2 rfl (lv_at hl 0 rfl) ?_
  refine va_get (D := D) (ci := 4) (v := .ref (am 4)) (C := RX5) (T := TX5) (N := 21) hx hb hts (iX5) hown hK hP 0 rfl rfl 5 (by decide) (hts _ (List.mem_cons_of_mem _ wt_605)) (fun _ h9 => h9) rfl dX5_isTaster_3 ?_
  refine lv_iconst (v := nI (0)) hx hb dX5_isTaster_6 (by decide) ?_
  refine n_iald hx hb hK hP 1 (f := g 4) rfl (by omega) dX5_isTaster_7 ?_
  refine n_tope (show nI (g 4 0) = nI (n 5) from congrArg nI (m4)) ?_
  refine lv_iconst (v := nI (1)) hx hb dX5_isTaster_8 (by decide) ?_
  refine lv_isub hx hb dX5_isTaster_9 ?_
  refine ro_i (roS_run (As := [.int (i), .int (nI 0), .int (nI (n 5) - nI (1))]) (rest := []) hx hb hml hown hts Tg_M (c_X5_in l D G _ (i) (nI (0)) (nI (n 5) - nI (1))) lk_RX5_52 ⟨rfl, rfl, Nat.le_of_ble_eq_true rfl, Nat.le_of_ble_eq_true rfl⟩ hP hK [] rfl rfl hl rfl (Nat.le_of_ble_eq_true rfl) dX5_isTaster_10 ⟨Nat.le_of_ble_eq_true rfl, Nat.le_of_ble_eq_true rfl⟩) hS hA (fun locs hS => ?_)
  refine n_tope (show bI (inR (i) (nI (0)) (nI (n 5) - nI (1))) = bI (hasB i (n 5)) from by rw [inR_has (by omega)]) ?_
  exact ro_zret hx hb hr hlocks hS dX5_isTaster_13 (narrow_bI _) (rfl)

set_option maxHeartbeats 4000000 in
set_option maxRecDepth 100000 in
theorem c_X5_byLaw (l : Launch) (D : va_G) (G : ClassId × ClassId × ClassId) (H0 : Heap) (a bb dd t ww nn h : Nat) (ha : a ≤ 9) (hb9 : bb ≤ 9) (hd : 1 ≤ dd ∧ dd ≤ 9) (ht : t ≤ 3) (hw : ww ≤ 60) (hn : nn ≤ 4096) (hh : h ≤ 9) : Met l yX5_byLaw (wM yX5_byLaw cX5_byLaw 8 (some .int)) (rmD 1) (rP D G [.int (nI a), .int (nI bb), .int (nI dd), .int (nI t), .int (nI ww), .int (nI nn), .int (nI h)] [] H0) (rQi (nI (dk a bb dd t ww nn h)) H0) 0 0 (rF H0) := by
  refine ro_start (Qc := fun H0 => (rQi (nI (dk a bb dd t ww nn h)) H0)) (by decide) (Nat.le_of_ble_eq_true rfl) ?_
  intro p e s m args below meth c hx hb hr hts hown hlocks hml hP hK hA hH0 ls hl locs hS
  have hl : lv_has ls 8 [(0, .int (nI a)), (1, .int (nI bb)), (2, .int (nI dd)), (3, .int (nI t)), (4, .int (nI ww)), (5, .int (nI nn)), (6, .int (nI h))] := hl
  have hAw : a * ww ≤ 9 * 60 := Nat.mul_le_mul ha hw
  have hTn : t * nn ≤ 3 * 4096 := Nat.mul_le_mul ht hn
  refine lv_iload_n hx hb dX5_byLaw_0 rfl (lv_at hl 0 rfl) ?_
  refine lv_iload hx hb dX5_byLaw_1 (lv_at hl 4 rfl) ?_
  refine n_imul hx hb dX5_byLaw_3 ?_
  refine lv_iload_n hx hb dX5_byLaw_4 rfl (lv_at hl 3 rfl) ?_
  refine lv_iload hx hb dX5_byLaw_5 (lv_at hl 5 rfl) ?_
  refine n_imul hx hb dX5_byLaw_7 ?_
  refine lv_isub hx hb dX5_byLaw_8 ?_
  refine lv_istore (lv' := [(7, .int (nI (a * ww) - nI (t * nn))), (0, .int (nI a)), (1, .int (nI bb)), (2, .int (nI dd)), (3, .int (nI t)), (4, .int (nI ww)), (5, .int (nI nn)), (6, .int (nI h))]) hx hb dX5_byLaw_9 hl (by decide) rfl (fun ls hl => ?_)
  refine lv_iload hx hb dX5_byLaw_11 (lv_at hl 0 rfl) ?_
  refine lv_if_ge (tgt := 20) hx hb dX5_byLaw_13 (by decide) (fun c_13 => ?_) (fun c_13 => ?_)
  · have hge : t * nn ≤ a * ww := Nat.not_lt.mp (fun z => absurd ((sneg_iff (by omega) (by omega)).mpr z) (Int32.not_lt.mpr c_13))
    refine lv_iload hx hb dX5_byLaw_20 (lv_at hl 0 rfl) ?_
    refine n_tope (show (nI (a * ww) - nI (t * nn)) = nI (a * ww - t * nn) from pk_sub hge) ?_
    refine lv_iload_n hx hb dX5_byLaw_22 rfl (lv_at hl 2 rfl) ?_
    refine n_iadd hx hb dX5_byLaw_23 ?_
    refine lv_iload hx hb dX5_byLaw_24 (lv_at hl 7 rfl) ?_
    refine n_iadd hx hb dX5_byLaw_26 ?_
    refine lv_iload_n hx hb dX5_byLaw_27 rfl (lv_at hl 3 rfl) ?_
    refine n_idiv hx hb dX5_byLaw_28 (by omega) (by omega) (by omega) ?_
    exact ro_iret hx hb hr hlocks hS dX5_byLaw_29 (rfl)
  · have hlt : a * ww < t * nn := (sneg_iff (by omega) (by omega)).mp (Int32.not_le.mp c_13)
    refine lv_iconst (v := nI (0)) hx hb dX5_byLaw_16 (by decide) ?_
    refine lv_goto (tgt := 22) hx hb dX5_byLaw_17 (by decide) ?_
    refine lv_iload_n hx hb dX5_byLaw_22 rfl (lv_at hl 2 rfl) ?_
    refine n_iadd hx hb dX5_byLaw_23 ?_
    refine lv_iload hx hb dX5_byLaw_24 (lv_at hl 7 rfl) ?_
    refine n_iadd hx hb dX5_byLaw_26 ?_
    refine lv_iload_n hx hb dX5_byLaw_27 rfl (lv_at hl 3 rfl) ?_
    refine n_idiv hx hb dX5_byLaw_28 (by omega) (by omega) (by omega) ?_
    exact ro_iret hx hb hr hlocks hS dX5_byLaw_29 (by rw [dk, show a * ww - t * nn = 0 by omega])

set_option maxHeartbeats 4000000 in
set_option maxRecDepth 100000 in
theorem c_X5_cupsOf (l : Launch) (D : va_G) (G : ClassId × ClassId × ClassId) (H0 : Heap) (am n : Nat → Nat) (f : Nat → Nat → Nat) (k : Nat → Nat) (g : Nat → Nat → Nat) (j : Nat → Nat) (tx : Nat → Int32) (fl : Int32) (hh : Bool) (kp : Nat → Bool) (tr : Int64) (t ww nn h : Nat) (ht : t < n 5) (hl9 : ∀ t, t < n 5 → f 5 t < 3240) (m5 : rLaw n f g) (h5 : n 5 ≤ 6) (hw : ww ≤ 60) (hn : nn ≤ 4096) (hh8 : h ≤ 9) : Met l yX5_cupsOf (wM yX5_cupsOf cX5_cupsOf 5 (some .int)) (rmD 2) (rP D G [.ref (am 0), .int (nI t), .int (nI ww), .int (nI nn), .int (nI h)] [(am 0, .inr (4, [.long (tr), .ref (am 1), .int (nI (j 0)), .ref (am 2), .ref (am 3), .ref (am 4), .ref (am 5), .ref (am 6), .ref (am 7), .ref (am 8), .ref (am 9), .int (nI (j 1)), .int (nI (j 2)), .int (nI (j 3)), .int (nI (j 4)), .int (fl), .int (bI (hh)), .ref (am 10), .ref (am 11), .ref (am 12), .int (nI (j 5))])), (am 5, .inl (G.1, 12, .inl (nF (g 5)))), (am 6, .inl (G.1, 12, .inl (nF (g 6)))), (am 7, .inl (G.1, 12, .inl (nF (g 7)))), (am 8, .inl (G.1, 12, .inl (nF (g 8))))] H0) (rQi (nI (drk (f 5 t) ww nn h)) H0) 0 0 (rF H0) := by
  refine ro_start (Qc := fun H0 => (rQi (nI (drk (f 5 t) ww nn h)) H0)) (by decide) (Nat.le_of_ble_eq_true rfl) ?_
  intro p e s m args below meth c hx hb hr hts hown hlocks hml hP hK hA hH0 ls hl locs hS
  have hl : lv_has ls 5 [(0, .ref (am 0)), (1, .int (nI t)), (2, .int (nI ww)), (3, .int (nI nn)), (4, .int (nI h))] := hl
  have p0 := lP0 (hl9 t ht)
  have p1 := lP1 (f 5 t)
  have p2 := lP2 (f 5 t)
  have p3 := lP3 (f 5 t)
  refine lv_aload_n hx hb dX5_cupsOf_0 rfl (lv_at hl 0 rfl) ?_
  refine va_get (D := D) (ci := 4) (v := .ref (am 5)) (C := RX5) (T := TX5) (N := 21) hx hb hts (iX5) hown hK hP 0 rfl rfl 6 (by decide) (hts _ (List.mem_cons_of_mem _ wt_606)) (fun _ h9 => h9) rfl dX5_cupsOf_1 ?_
  refine lv_iload_n hx hb dX5_cupsOf_4 rfl (lv_at hl 1 rfl) ?_
  refine n_iald hx hb hK hP 1 (f := g 5) rfl (by omega) dX5_cupsOf_5 ?_
  refine n_tope (show nI (g 5 t) = nI (lP (f 5 t) 0) from congrArg nI ((m5 t (by omega)).1)) ?_
  refine lv_aload_n hx hb dX5_cupsOf_6 rfl (lv_at hl 0 rfl) ?_
  refine va_get (D := D) (ci := 4) (v := .ref (am 6)) (C := RX5) (T := TX5) (N := 21) hx hb hts (iX5) hown hK hP 0 rfl rfl 7 (by decide) (hts _ (List.mem_cons_of_mem _ wt_607)) (fun _ h9 => h9) rfl dX5_cupsOf_7 ?_
  refine lv_iload_n hx hb dX5_cupsOf_10 rfl (lv_at hl 1 rfl) ?_
  refine n_iald hx hb hK hP 2 (f := g 6) rfl (by omega) dX5_cupsOf_11 ?_
  refine n_tope (show nI (g 6 t) = nI (lP (f 5 t) 1) from congrArg nI ((m5 t (by omega)).2.1)) ?_
  refine lv_aload_n hx hb dX5_cupsOf_12 rfl (lv_at hl 0 rfl) ?_
  refine va_get (D := D) (ci := 4) (v := .ref (am 7)) (C := RX5) (T := TX5) (N := 21) hx hb hts (iX5) hown hK hP 0 rfl rfl 8 (by decide) (hts _ (List.mem_cons_of_mem _ wt_608)) (fun _ h9 => h9) rfl dX5_cupsOf_13 ?_
  refine lv_iload_n hx hb dX5_cupsOf_16 rfl (lv_at hl 1 rfl) ?_
  refine n_iald hx hb hK hP 3 (f := g 7) rfl (by omega) dX5_cupsOf_17 ?_
  refine n_tope (show nI (g 7 t) = nI (lP (f 5 t) 2) from congrArg nI ((m5 t (by omega)).2.2.1)) ?_
  refine lv_aload_n hx hb dX5_cupsOf_18 rfl (lv_at hl 0 rfl) ?_
  refine va_get (D := D) (ci := 4) (v := .ref (am 8)) (C := RX5) (T := TX5) (N := 21) hx hb hts (iX5) hown hK hP 0 rfl rfl 9 (by decide) (hts _ (List.mem_cons_of_mem _ wt_609)) (fun _ h9 => h9) rfl dX5_cupsOf_19 ?_
  refine lv_iload_n hx hb dX5_cupsOf_22 rfl (lv_at hl 1 rfl) ?_
  refine n_iald hx hb hK hP 4 (f := g 8) rfl (by omega) dX5_cupsOf_23 ?_
  refine n_tope (show nI (g 8 t) = nI (lP (f 5 t) 3) from congrArg nI ((m5 t (by omega)).2.2.2)) ?_
  refine lv_iload_n hx hb dX5_cupsOf_24 rfl (lv_at hl 2 rfl) ?_
  refine lv_iload_n hx hb dX5_cupsOf_25 rfl (lv_at hl 3 rfl) ?_
  refine lv_iload hx hb dX5_cupsOf_26 (lv_at hl 4 rfl) ?_
  refine ro_i (roS_run (As := [.int (nI (lP (f 5 t) 0)), .int (nI (lP (f 5 t) 1)), .int (nI (lP (f 5 t) 2)), .int (nI (lP (f 5 t) 3)), .int (nI ww), .int (nI nn), .int (nI h)]) (rest := []) hx hb hml hown hts Tg_M (c_X5_byLaw l D G _ (lP (f 5 t) 0) (lP (f 5 t) 1) (lP (f 5 t) 2) (lP (f 5 t) 3) ww nn h (by omega) (by omega) (by omega) (by omega) hw hn hh8) lk_RX5_101 ⟨rfl, rfl, Nat.le_of_ble_eq_true rfl, Nat.le_of_ble_eq_true rfl⟩ hP hK [] rfl rfl hl rfl (Nat.le_of_ble_eq_true rfl) dX5_cupsOf_28 ⟨Nat.le_of_ble_eq_true rfl, Nat.le_of_ble_eq_true rfl⟩) hS hA (fun locs hS => ?_)
  exact ro_iret hx hb hr hlocks hS dX5_cupsOf_31 (rfl)

set_option maxHeartbeats 4000000 in
set_option maxRecDepth 100000 in
theorem c_X5_load (l : Launch) (D : va_G) (G : ClassId × ClassId × ClassId) (H0 : Heap) (am n : Nat → Nat) (f : Nat → Nat → Nat) (k : Nat → Nat) (g : Nat → Nat → Nat) (j : Nat → Nat) (tx : Nat → Int32) (fl : Int32) (hh : Bool) (kp : Nat → Bool) (tr : Int64) (q : Nat) (a : Int32) (hI : XI n f k q) (hM : RQ n f k g) : Met l yX5_load (wM yX5_load cX5_load 2 (some .int)) (rmD 3) (rP D G [.ref (am 0), .int (a)] [(am 0, .inr (4, [.long (tr), .ref (am 1), .int (nI (j 0)), .ref (am 2), .ref (am 3), .ref (am 4), .ref (am 5), .ref (am 6), .ref (am 7), .ref (am 8), .ref (am 9), .int (nI (j 1)), .int (nI (j 2)), .int (nI (j 3)), .int (nI (j 4)), .int (fl), .int (bI (hh)), .ref (am 10), .ref (am 11), .ref (am 12), .int (nI (j 5))])), (am 2, .inl (G.1, 2, .inl (nF (g 2)))), (am 3, .inl (G.1, 10, .inl (nF (g 3))))] H0) (rQi (spLoad n f a) H0) 0 0 (rF H0) := by
  refine ro_start (Qc := fun H0 => (rQi (spLoad n f a) H0)) (by decide) (Nat.le_of_ble_eq_true rfl) ?_
  intro p e s m args below meth c hx hb hr hts hown hlocks hml hP hK hA hH0 ls hl locs hS
  have hl : lv_has ls 2 [(0, .ref (am 0)), (1, .int (a))] := hl
  have hI0 := hI
  have hM0 := hM
  obtain ⟨i4, i5, i6, iq, iw, il, i7, i8, ih9, ik, iF⟩ := hI
  obtain ⟨m2, m3, m4, m5, m0, m6, m7, m8⟩ := hM
  refine lv_aload_n hx hb dX5_load_0 rfl (lv_at hl 0 rfl) ?_
  refine lv_iload_n hx hb dX5_load_1 rfl (lv_at hl 1 rfl) ?_
  refine ro_i (roV_run (As := [.int (a)]) (rest := []) hx hb hml hown hts Tg_M (c_X5_isLoad l D G _ am n f k g j tx fl hh kp tr q (a) hI0 hM0) lk_RX5_105 ⟨rfl, rfl, Nat.le_of_ble_eq_true rfl, Nat.le_of_ble_eq_true rfl⟩ hP hK [0, 1] rfl 0 4 rfl rfl rfl rfl hl rfl (Nat.le_of_ble_eq_true rfl) dX5_load_2 ⟨Nat.le_of_ble_eq_true rfl, Nat.le_of_ble_eq_true rfl⟩) hS hA (fun locs hS => ?_)
  refine b_if_eq (tgt := 17) hx hb dX5_load_5 (by decide) (fun c_5 => ?_) (fun c_5 => ?_)
  · have e_i := ix_no c_5
    refine lv_iconst (v := (-1)) hx hb dX5_load_17 (by decide) ?_
    exact ro_iret hx hb hr hlocks hS dX5_load_18 (by simp only [spLoad, e_i, Option.elim])
  · obtain ⟨i, h_i, rfl⟩ := hasB_N (by omega) c_5
    have e_i := ix_yes h_i (show n 4 < 2 ^ 31 by omega)
    refine lv_aload_n hx hb dX5_load_8 rfl (lv_at hl 0 rfl) ?_
    refine va_get (D := D) (ci := 4) (v := .ref (am 3)) (C := RX5) (T := TX5) (N := 21) hx hb hts (iX5) hown hK hP 0 rfl rfl 4 (by decide) (hts _ (List.mem_cons_of_mem _ wt_604)) (fun _ h9 => h9) rfl dX5_load_9 ?_
    refine lv_iload_n hx hb dX5_load_12 rfl (lv_at hl 1 rfl) ?_
    refine n_iald hx hb hK hP 2 (f := g 3) rfl (by omega) dX5_load_13 ?_
    refine n_tope (show nI (g 3 i) = nI (f 4 i) from congrArg nI (m3 _ (by omega))) ?_
    refine lv_goto (tgt := 18) hx hb dX5_load_14 (by decide) ?_
    exact ro_iret hx hb hr hlocks hS dX5_load_18 (by simp only [spLoad, e_i, Option.elim])

set_option maxHeartbeats 4000000 in
set_option maxRecDepth 100000 in
theorem c_X5_taster (l : Launch) (D : va_G) (G : ClassId × ClassId × ClassId) (H0 : Heap) (am n : Nat → Nat) (f : Nat → Nat → Nat) (k : Nat → Nat) (g : Nat → Nat → Nat) (j : Nat → Nat) (tx : Nat → Int32) (fl : Int32) (hh : Bool) (kp : Nat → Bool) (tr : Int64) (q : Nat) (a a2 : Int32) (hI : XI n f k q) (hM : RQ n f k g) : Met l yX5_taster (wM yX5_taster cX5_taster 3 (some .int)) (rmD 3) (rP D G [.ref (am 0), .int (a), .int (a2)] [(am 0, .inr (4, [.long (tr), .ref (am 1), .int (nI (j 0)), .ref (am 2), .ref (am 3), .ref (am 4), .ref (am 5), .ref (am 6), .ref (am 7), .ref (am 8), .ref (am 9), .int (nI (j 1)), .int (nI (j 2)), .int (nI (j 3)), .int (nI (j 4)), .int (fl), .int (bI (hh)), .ref (am 10), .ref (am 11), .ref (am 12), .int (nI (j 5))])), (am 4, .inl (G.1, 2, .inl (nF (g 4)))), (am 5, .inl (G.1, 12, .inl (nF (g 5)))), (am 6, .inl (G.1, 12, .inl (nF (g 6)))), (am 7, .inl (G.1, 12, .inl (nF (g 7)))), (am 8, .inl (G.1, 12, .inl (nF (g 8)))), (am 10, .inl (G.1, 240, .inl (nF (g 10))))] H0) (rQi (spTaster n f a a2) H0) 0 0 (rF H0) := by
  refine ro_start (Qc := fun H0 => (rQi (spTaster n f a a2) H0)) (by decide) (Nat.le_of_ble_eq_true rfl) ?_
  intro p e s m args below meth c hx hb hr hts hown hlocks hml hP hK hA hH0 ls hl locs hS
  have hl : lv_has ls 3 [(0, .ref (am 0)), (1, .int (a)), (2, .int (a2))] := hl
  have hI0 := hI
  have hM0 := hM
  obtain ⟨i4, i5, i6, iq, iw, il, i7, i8, ih9, ik, iF⟩ := hI
  obtain ⟨m2, m3, m4, m5, m0, m6, m7, m8⟩ := hM
  refine lv_aload_n hx hb dX5_taster_0 rfl (lv_at hl 0 rfl) ?_
  refine lv_iload_n hx hb dX5_taster_1 rfl (lv_at hl 1 rfl) ?_
  refine ro_i (roV_run (As := [.int (a)]) (rest := []) hx hb hml hown hts Tg_M (c_X5_isTaster l D G _ am n f k g j tx fl hh kp tr q (a) hI0 hM0) lk_RX5_109 ⟨rfl, rfl, Nat.le_of_ble_eq_true rfl, Nat.le_of_ble_eq_true rfl⟩ hP hK [0, 1] rfl 0 4 rfl rfl rfl rfl hl rfl (Nat.le_of_ble_eq_true rfl) dX5_taster_2 ⟨Nat.le_of_ble_eq_true rfl, Nat.le_of_ble_eq_true rfl⟩) hS hA (fun locs hS => ?_)
  refine b_if_ne (tgt := 10) hx hb dX5_taster_5 (by decide) (fun c_5 => ?_) (fun c_5 => ?_)
  · obtain ⟨t, h_t, rfl⟩ := hasB_N (by omega) c_5
    have e_t := ix_yes h_t (show n 5 < 2 ^ 31 by omega)
    refine lv_iload_n hx hb dX5_taster_10 rfl (lv_at hl 2 rfl) ?_
    rcases hq : inR a2 (nI 0) (nI 4) with _ | _
    · have e_a := ir_no hq
      refine lv_tableOut (tgt := 79) hx hb dX5_taster_11 (inR_out (by decide) (by decide) hq) (by decide) ?_
      refine lv_iconst (v := (-1)) hx hb dX5_taster_79 (by decide) ?_
      exact ro_iret hx hb hr hlocks hS dX5_taster_80 (by simp only [spTaster, e_t, e_a, Option.elim])
    · obtain ⟨i, -, hi, rfl⟩ := inR_N (by decide) (by decide) hq
      rcases (show i = 0 ∨ i = 1 ∨ i = 2 ∨ i = 3 ∨ i = 4 by omega) with rfl | rfl | rfl | rfl | rfl
      · refine lv_tableIn (off := 33) (tgt := 44) hx hb dX5_taster_11 (by decide) (by decide) (by decide) (by decide) ?_
        refine lv_aload_n hx hb dX5_taster_44 rfl (lv_at hl 0 rfl) ?_
        refine va_get (D := D) (ci := 4) (v := .ref (am 5)) (C := RX5) (T := TX5) (N := 21) hx hb hts (iX5) hown hK hP 0 rfl rfl 6 (by decide) (hts _ (List.mem_cons_of_mem _ wt_606)) (fun _ h9 => h9) rfl dX5_taster_45 ?_
        refine lv_iload_n hx hb dX5_taster_48 rfl (lv_at hl 1 rfl) ?_
        refine n_iald hx hb hK hP 2 (f := g 5) rfl (by omega) dX5_taster_49 ?_
        refine n_tope (show nI (g 5 t) = nI (lP (f 5 t) 0) from congrArg nI ((m5 t (by omega)).1)) ?_
        exact ro_iret hx hb hr hlocks hS dX5_taster_50 (by simp only [spTaster, e_t, show ir (nI 0) 0 4 = some 0 from rfl, Option.elim] <;> rfl)
      · refine lv_tableIn (off := 40) (tgt := 51) hx hb dX5_taster_11 (by decide) (by decide) (by decide) (by decide) ?_
        refine lv_aload_n hx hb dX5_taster_51 rfl (lv_at hl 0 rfl) ?_
        refine va_get (D := D) (ci := 4) (v := .ref (am 6)) (C := RX5) (T := TX5) (N := 21) hx hb hts (iX5) hown hK hP 0 rfl rfl 7 (by decide) (hts _ (List.mem_cons_of_mem _ wt_607)) (fun _ h9 => h9) rfl dX5_taster_52 ?_
        refine lv_iload_n hx hb dX5_taster_55 rfl (lv_at hl 1 rfl) ?_
        refine n_iald hx hb hK hP 3 (f := g 6) rfl (by omega) dX5_taster_56 ?_
        refine n_tope (show nI (g 6 t) = nI (lP (f 5 t) 1) from congrArg nI ((m5 t (by omega)).2.1)) ?_
        exact ro_iret hx hb hr hlocks hS dX5_taster_57 (by simp only [spTaster, e_t, show ir (nI 1) 0 4 = some 1 from rfl, Option.elim] <;> rfl)
      · refine lv_tableIn (off := 47) (tgt := 58) hx hb dX5_taster_11 (by decide) (by decide) (by decide) (by decide) ?_
        refine lv_aload_n hx hb dX5_taster_58 rfl (lv_at hl 0 rfl) ?_
        refine va_get (D := D) (ci := 4) (v := .ref (am 7)) (C := RX5) (T := TX5) (N := 21) hx hb hts (iX5) hown hK hP 0 rfl rfl 8 (by decide) (hts _ (List.mem_cons_of_mem _ wt_608)) (fun _ h9 => h9) rfl dX5_taster_59 ?_
        refine lv_iload_n hx hb dX5_taster_62 rfl (lv_at hl 1 rfl) ?_
        refine n_iald hx hb hK hP 4 (f := g 7) rfl (by omega) dX5_taster_63 ?_
        refine n_tope (show nI (g 7 t) = nI (lP (f 5 t) 2) from congrArg nI ((m5 t (by omega)).2.2.1)) ?_
        exact ro_iret hx hb hr hlocks hS dX5_taster_64 (by simp only [spTaster, e_t, show ir (nI 2) 0 4 = some 2 from rfl, Option.elim] <;> rfl)
      · refine lv_tableIn (off := 54) (tgt := 65) hx hb dX5_taster_11 (by decide) (by decide) (by decide) (by decide) ?_
        refine lv_aload_n hx hb dX5_taster_65 rfl (lv_at hl 0 rfl) ?_
        refine va_get (D := D) (ci := 4) (v := .ref (am 8)) (C := RX5) (T := TX5) (N := 21) hx hb hts (iX5) hown hK hP 0 rfl rfl 9 (by decide) (hts _ (List.mem_cons_of_mem _ wt_609)) (fun _ h9 => h9) rfl dX5_taster_66 ?_
        refine lv_iload_n hx hb dX5_taster_69 rfl (lv_at hl 1 rfl) ?_
        refine n_iald hx hb hK hP 5 (f := g 8) rfl (by omega) dX5_taster_70 ?_
        refine n_tope (show nI (g 8 t) = nI (lP (f 5 t) 3) from congrArg nI ((m5 t (by omega)).2.2.2)) ?_
        exact ro_iret hx hb hr hlocks hS dX5_taster_71 (by simp only [spTaster, e_t, show ir (nI 3) 0 4 = some 3 from rfl, Option.elim] <;> rfl)
      · refine lv_tableIn (off := 61) (tgt := 72) hx hb dX5_taster_11 (by decide) (by decide) (by decide) (by decide) ?_
        refine lv_aload_n hx hb dX5_taster_72 rfl (lv_at hl 0 rfl) ?_
        refine va_get (D := D) (ci := 4) (v := .ref (am 10)) (C := RX5) (T := TX5) (N := 21) hx hb hts (iX5) hown hK hP 0 rfl rfl 17 (by decide) (hts _ (List.mem_cons_of_mem _ wt_617)) (fun _ h9 => h9) rfl dX5_taster_73 ?_
        refine lv_iload_n hx hb dX5_taster_76 rfl (lv_at hl 1 rfl) ?_
        refine n_iald hx hb hK hP 6 (f := g 10) rfl (by omega) dX5_taster_77 ?_
        refine n_tope (show nI (g 10 t) = nI (f 7 t) from congrArg nI ((m0 t (by omega)).trans (if_pos (by omega)))) ?_
        exact ro_iret hx hb hr hlocks hS dX5_taster_78 (by simp only [spTaster, e_t, show ir (nI 4) 0 4 = some 4 from rfl, Option.elim] <;> rfl)
  · have e_t := ix_no c_5
    refine lv_iconst (v := (-1)) hx hb dX5_taster_8 (by decide) ?_
    exact ro_iret hx hb hr hlocks hS dX5_taster_9 (by simp only [spTaster, e_t, Option.elim])

set_option maxHeartbeats 4000000 in
set_option maxRecDepth 100000 in
theorem c_X5_cups (l : Launch) (D : va_G) (G : ClassId × ClassId × ClassId) (H0 : Heap) (am n : Nat → Nat) (f : Nat → Nat → Nat) (k : Nat → Nat) (g : Nat → Nat → Nat) (j : Nat → Nat) (tx : Nat → Int32) (fl : Int32) (hh : Bool) (kp : Nat → Bool) (tr : Int64) (q : Nat) (a a2 a3 : Int32) (hI : XI n f k q) (hM : RQ n f k g) : Met l yX5_cups (wM yX5_cups cX5_cups 4 (some .int)) (rmD 4) (rP D G [.ref (am 0), .int (a), .int (a2), .int (a3)] [(am 0, .inr (4, [.long (tr), .ref (am 1), .int (nI (j 0)), .ref (am 2), .ref (am 3), .ref (am 4), .ref (am 5), .ref (am 6), .ref (am 7), .ref (am 8), .ref (am 9), .int (nI (j 1)), .int (nI (j 2)), .int (nI (j 3)), .int (nI (j 4)), .int (fl), .int (bI (hh)), .ref (am 10), .ref (am 11), .ref (am 12), .int (nI (j 5))])), (am 4, .inl (G.1, 2, .inl (nF (g 4)))), (am 5, .inl (G.1, 12, .inl (nF (g 5)))), (am 6, .inl (G.1, 12, .inl (nF (g 6)))), (am 7, .inl (G.1, 12, .inl (nF (g 7)))), (am 8, .inl (G.1, 12, .inl (nF (g 8)))), (am 10, .inl (G.1, 240, .inl (nF (g 10))))] H0) (rQi (spCups n f k a a2 a3) H0) 0 0 (rF H0) := by
  refine ro_start (Qc := fun H0 => (rQi (spCups n f k a a2 a3) H0)) (by decide) (Nat.le_of_ble_eq_true rfl) ?_
  intro p e s m args below meth c hx hb hr hts hown hlocks hml hP hK hA hH0 ls hl locs hS
  have hl : lv_has ls 4 [(0, .ref (am 0)), (1, .int (a)), (2, .int (a2)), (3, .int (a3))] := hl
  have hI0 := hI
  have hM0 := hM
  obtain ⟨i4, i5, i6, iq, iw, il, i7, i8, ih9, ik, iF⟩ := hI
  obtain ⟨m2, m3, m4, m5, m0, m6, m7, m8⟩ := hM
  refine lv_aload_n hx hb dX5_cups_0 rfl (lv_at hl 0 rfl) ?_
  refine lv_iload_n hx hb dX5_cups_1 rfl (lv_at hl 1 rfl) ?_
  refine ro_i (roV_run (As := [.int (a)]) (rest := []) hx hb hml hown hts Tg_M (c_X5_isTaster l D G _ am n f k g j tx fl hh kp tr q (a) hI0 hM0) lk_RX5_109 ⟨rfl, rfl, Nat.le_of_ble_eq_true rfl, Nat.le_of_ble_eq_true rfl⟩ hP hK [0, 1] rfl 0 4 rfl rfl rfl rfl hl rfl (Nat.le_of_ble_eq_true rfl) dX5_cups_2 ⟨Nat.le_of_ble_eq_true rfl, Nat.le_of_ble_eq_true rfl⟩) hS hA (fun locs hS => ?_)
  refine b_if_eq (tgt := 45) hx hb dX5_cups_5 (by decide) (fun c_5 => ?_) (fun c_5 => ?_)
  · have e_t := ix_no c_5
    refine lv_iconst (v := (-1)) hx hb dX5_cups_45 (by decide) ?_
    exact ro_iret hx hb hr hlocks hS dX5_cups_46 (by simp only [spCups, e_t, Option.elim])
  · obtain ⟨t, h_t, rfl⟩ := hasB_N (by omega) c_5
    have e_t := ix_yes h_t (show n 5 < 2 ^ 31 by omega)
    refine lv_iload_n hx hb dX5_cups_8 rfl (lv_at hl 2 rfl) ?_
    refine lv_iconst (v := nI (0)) hx hb dX5_cups_9 (by decide) ?_
    refine lv_bipush (v := nI (60)) hx hb dX5_cups_10 (by decide) ?_
    refine ro_i (roS_run (As := [.int (a2), .int (nI 0), .int (nI 60)]) (rest := []) hx hb hml hown hts Tg_M (c_X5_in l D G _ (a2) (nI (0)) (nI (60))) lk_RX5_52 ⟨rfl, rfl, Nat.le_of_ble_eq_true rfl, Nat.le_of_ble_eq_true rfl⟩ hP hK [] rfl rfl hl rfl (Nat.le_of_ble_eq_true rfl) dX5_cups_12 ⟨Nat.le_of_ble_eq_true rfl, Nat.le_of_ble_eq_true rfl⟩) hS hA (fun locs hS => ?_)
    refine b_if_eq (tgt := 45) hx hb dX5_cups_15 (by decide) (fun c_15 => ?_) (fun c_15 => ?_)
    · have e_w := ir_no c_15
      refine lv_iconst (v := (-1)) hx hb dX5_cups_45 (by decide) ?_
      exact ro_iret hx hb hr hlocks hS dX5_cups_46 (by simp only [spCups, e_t, e_w, Option.elim])
    · obtain ⟨w, g_w, h_w, rfl⟩ := inR_N (by decide) (by decide) c_15
      have e_w := ir_yes g_w h_w (by decide)
      refine lv_iload_n hx hb dX5_cups_18 rfl (lv_at hl 3 rfl) ?_
      refine lv_iconst (v := nI (0)) hx hb dX5_cups_19 (by decide) ?_
      refine lv_bipush (v := nI (99)) hx hb dX5_cups_20 (by decide) ?_
      refine ro_i (roS_run (As := [.int (a3), .int (nI 0), .int (nI 99)]) (rest := []) hx hb hml hown hts Tg_M (c_X5_in l D G _ (a3) (nI (0)) (nI (99))) lk_RX5_52 ⟨rfl, rfl, Nat.le_of_ble_eq_true rfl, Nat.le_of_ble_eq_true rfl⟩ hP hK [] rfl rfl hl rfl (Nat.le_of_ble_eq_true rfl) dX5_cups_22 ⟨Nat.le_of_ble_eq_true rfl, Nat.le_of_ble_eq_true rfl⟩) hS hA (fun locs hS => ?_)
      refine b_if_eq (tgt := 45) hx hb dX5_cups_25 (by decide) (fun c_25 => ?_) (fun c_25 => ?_)
      · have e_i := ir_no c_25
        refine lv_iconst (v := (-1)) hx hb dX5_cups_45 (by decide) ?_
        exact ro_iret hx hb hr hlocks hS dX5_cups_46 (by simp only [spCups, e_t, e_w, e_i, Option.elim])
      · obtain ⟨i, g_i, h_i, rfl⟩ := inR_N (by decide) (by decide) c_25
        have e_i := ir_yes g_i h_i (by decide)
        refine lv_aload_n hx hb dX5_cups_28 rfl (lv_at hl 0 rfl) ?_
        refine lv_iload_n hx hb dX5_cups_29 rfl (lv_at hl 1 rfl) ?_
        refine lv_iload_n hx hb dX5_cups_30 rfl (lv_at hl 2 rfl) ?_
        refine lv_iload_n hx hb dX5_cups_31 rfl (lv_at hl 3 rfl) ?_
        refine lv_aload_n hx hb dX5_cups_32 rfl (lv_at hl 0 rfl) ?_
        refine va_get (D := D) (ci := 4) (v := .ref (am 10)) (C := RX5) (T := TX5) (N := 21) hx hb hts (iX5) hown hK hP 0 rfl rfl 17 (by decide) (hts _ (List.mem_cons_of_mem _ wt_617)) (fun _ h9 => h9) rfl dX5_cups_33 ?_
        refine lv_bipush (v := nI (6)) hx hb dX5_cups_36 (by decide) ?_
        refine n_iald hx hb hK hP 6 (f := g 10) rfl (by omega) dX5_cups_38 ?_
        refine n_tope (show nI (g 10 6) = nI (k 5) from congrArg nI (m6)) ?_
        refine ro_i (roV_run (As := [.int (nI t), .int (nI w), .int (nI i), .int (nI (k 5))]) (rest := []) hx hb hml hown hts Tg_M (c_X5_cupsOf l D G _ am n f k g j tx fl hh kp tr t w i (k 5) (by omega) il m5 (by omega) (by omega) (by omega) (by omega)) lk_RX5_112 ⟨rfl, rfl, Nat.le_of_ble_eq_true rfl, Nat.le_of_ble_eq_true rfl⟩ hP hK [0, 2, 3, 4, 5] rfl 0 4 rfl rfl rfl rfl hl rfl (Nat.le_of_ble_eq_true rfl) dX5_cups_39 ⟨Nat.le_of_ble_eq_true rfl, Nat.le_of_ble_eq_true rfl⟩) hS hA (fun locs hS => ?_)
        refine lv_goto (tgt := 46) hx hb dX5_cups_42 (by decide) ?_
        exact ro_iret hx hb hr hlocks hS dX5_cups_46 (by simp only [spCups, e_t, e_w, e_i, Option.elim])

set_option maxHeartbeats 4000000 in
set_option maxRecDepth 100000 in
theorem c_X5_known (l : Launch) (D : va_G) (G : ClassId × ClassId × ClassId) (H0 : Heap) (am n : Nat → Nat) (f : Nat → Nat → Nat) (k : Nat → Nat) (g : Nat → Nat → Nat) (j : Nat → Nat) (tx : Nat → Int32) (fl : Int32) (hh : Bool) (kp : Nat → Bool) (tr : Int64) (q : Nat) (a a2 : Int32) (hI : XI n f k q) (hM : RQ n f k g) : Met l yX5_known (wM yX5_known cX5_known 3 (some .int)) (rmD 3) (rP D G [.ref (am 0), .int (a), .int (a2)] [(am 0, .inr (4, [.long (tr), .ref (am 1), .int (nI (j 0)), .ref (am 2), .ref (am 3), .ref (am 4), .ref (am 5), .ref (am 6), .ref (am 7), .ref (am 8), .ref (am 9), .int (nI (j 1)), .int (nI (j 2)), .int (nI (j 3)), .int (nI (j 4)), .int (fl), .int (bI (hh)), .ref (am 10), .ref (am 11), .ref (am 12), .int (nI (j 5))])), (am 10, .inl (G.1, 240, .inl (nF (g 10))))] H0) (rQi (spKnown n f a a2) H0) 0 0 (rF H0) := by
  refine ro_start (Qc := fun H0 => (rQi (spKnown n f a a2) H0)) (by decide) (Nat.le_of_ble_eq_true rfl) ?_
  intro p e s m args below meth c hx hb hr hts hown hlocks hml hP hK hA hH0 ls hl locs hS
  have hl : lv_has ls 3 [(0, .ref (am 0)), (1, .int (a)), (2, .int (a2))] := hl
  have hI0 := hI
  have hM0 := hM
  obtain ⟨i4, i5, i6, iq, iw, il, i7, i8, ih9, ik, iF⟩ := hI
  obtain ⟨m2, m3, m4, m5, m0, m6, m7, m8⟩ := hM
  refine lv_iload_n hx hb dX5_known_0 rfl (lv_at hl 1 rfl) ?_
  refine lv_iconst (v := nI (0)) hx hb dX5_known_1 (by decide) ?_
  refine lv_aload_n hx hb dX5_known_2 rfl (lv_at hl 0 rfl) ?_
  refine va_get (D := D) (ci := 4) (v := .ref (am 10)) (C := RX5) (T := TX5) (N := 21) hx hb hts (iX5) hown hK hP 0 rfl rfl 17 (by decide) (hts _ (List.mem_cons_of_mem _ wt_617)) (fun _ h9 => h9) rfl dX5_known_3 ?_
  refine lv_bipush (v := nI (7)) hx hb dX5_known_6 (by decide) ?_
  refine n_iald hx hb hK hP 1 (f := g 10) rfl (by omega) dX5_known_8 ?_
  refine n_tope (show nI (g 10 7) = nI (n 8) from congrArg nI (m7)) ?_
  refine lv_iconst (v := nI (1)) hx hb dX5_known_9 (by decide) ?_
  refine lv_isub hx hb dX5_known_10 ?_
  refine ro_i (roS_run (As := [.int (a), .int (nI 0), .int (nI (n 8) - nI (1))]) (rest := []) hx hb hml hown hts Tg_M (c_X5_in l D G _ (a) (nI (0)) (nI (n 8) - nI (1))) lk_RX5_52 ⟨rfl, rfl, Nat.le_of_ble_eq_true rfl, Nat.le_of_ble_eq_true rfl⟩ hP hK [] rfl rfl hl rfl (Nat.le_of_ble_eq_true rfl) dX5_known_11 ⟨Nat.le_of_ble_eq_true rfl, Nat.le_of_ble_eq_true rfl⟩) hS hA (fun locs hS => ?_)
  refine n_tope (show bI (inR (a) (nI (0)) (nI (n 8) - nI (1))) = bI (hasB a (n 8)) from by rw [inR_has (by omega)]) ?_
  refine b_if_eq (tgt := 43) hx hb dX5_known_14 (by decide) (fun c_14 => ?_) (fun c_14 => ?_)
  · have e_i := ix_no c_14
    refine lv_iconst (v := (-1)) hx hb dX5_known_43 (by decide) ?_
    exact ro_iret hx hb hr hlocks hS dX5_known_44 (by simp only [spKnown, e_i, Option.elim])
  · obtain ⟨i, h_i, rfl⟩ := hasB_N (by omega) c_14
    have e_i := ix_yes h_i (show n 8 < 2 ^ 31 by omega)
    refine lv_iload_n hx hb dX5_known_17 rfl (lv_at hl 2 rfl) ?_
    refine lv_iconst (v := nI (0)) hx hb dX5_known_18 (by decide) ?_
    refine lv_iconst (v := nI (5)) hx hb dX5_known_19 (by decide) ?_
    refine ro_i (roS_run (As := [.int (a2), .int (nI 0), .int (nI 5)]) (rest := []) hx hb hml hown hts Tg_M (c_X5_in l D G _ (a2) (nI (0)) (nI (5))) lk_RX5_52 ⟨rfl, rfl, Nat.le_of_ble_eq_true rfl, Nat.le_of_ble_eq_true rfl⟩ hP hK [] rfl rfl hl rfl (Nat.le_of_ble_eq_true rfl) dX5_known_20 ⟨Nat.le_of_ble_eq_true rfl, Nat.le_of_ble_eq_true rfl⟩) hS hA (fun locs hS => ?_)
    refine b_if_eq (tgt := 43) hx hb dX5_known_23 (by decide) (fun c_23 => ?_) (fun c_23 => ?_)
    · have e_w := ir_no c_23
      refine lv_iconst (v := (-1)) hx hb dX5_known_43 (by decide) ?_
      exact ro_iret hx hb hr hlocks hS dX5_known_44 (by simp only [spKnown, e_i, e_w, Option.elim])
    · obtain ⟨w, g_w, h_w, rfl⟩ := inR_N (by decide) (by decide) c_23
      have e_w := ir_yes g_w h_w (by decide)
      refine lv_aload_n hx hb dX5_known_26 rfl (lv_at hl 0 rfl) ?_
      refine va_get (D := D) (ci := 4) (v := .ref (am 10)) (C := RX5) (T := TX5) (N := 21) hx hb hts (iX5) hown hK hP 0 rfl rfl 17 (by decide) (hts _ (List.mem_cons_of_mem _ wt_617)) (fun _ h9 => h9) rfl dX5_known_27 ?_
      refine lv_bipush (v := nI (8)) hx hb dX5_known_30 (by decide) ?_
      refine lv_bipush (v := nI (6)) hx hb dX5_known_32 (by decide) ?_
      refine lv_iload_n hx hb dX5_known_34 rfl (lv_at hl 1 rfl) ?_
      refine n_imul hx hb dX5_known_35 ?_
      refine n_iadd hx hb dX5_known_36 ?_
      refine lv_iload_n hx hb dX5_known_37 rfl (lv_at hl 2 rfl) ?_
      refine n_iadd hx hb dX5_known_38 ?_
      refine n_iald hx hb hK hP 1 (f := g 10) rfl (by omega) dX5_known_39 ?_
      refine n_tope (show nI (g 10 ((8 + (6 * i)) + w)) = nI (f 8 (6 * i + w)) from congrArg nI ((congrArg (g 10) (show 8 + 6 * i + w = 8 + (6 * i + w) by omega)).trans (m8 (6 * i + w) (by omega)))) ?_
      refine lv_goto (tgt := 44) hx hb dX5_known_40 (by decide) ?_
      exact ro_iret hx hb hr hlocks hS dX5_known_44 (by simp only [spKnown, e_i, e_w, Option.elim])

set_option maxHeartbeats 4000000 in
set_option maxRecDepth 100000 in
theorem c_X5_canBeOf (l : Launch) (D : va_G) (G : ClassId × ClassId × ClassId) (H0 : Heap) (am n : Nat → Nat) (f : Nat → Nat → Nat) (k : Nat → Nat) (g : Nat → Nat → Nat) (j : Nat → Nat) (tx : Nat → Int32) (fl : Int32) (hh : Bool) (kp : Nat → Bool) (tr : Int64) (q : Nat) (i9 : Nat) (hI : XI n f k q) (hM : RQ n f k g) (hj : i9 < 2 ^ 31) : Met l yX5_canBeOf (wM yX5_canBeOf cX5_canBeOf 8 (some .long)) (rmD 3) (rP D G [.ref (am 0), .int (nI i9)] [(am 0, .inr (4, [.long (tr), .ref (am 1), .int (nI (j 0)), .ref (am 2), .ref (am 3), .ref (am 4), .ref (am 5), .ref (am 6), .ref (am 7), .ref (am 8), .ref (am 9), .int (nI (j 1)), .int (nI (j 2)), .int (nI (j 3)), .int (nI (j 4)), .int (fl), .int (bI (hh)), .ref (am 10), .ref (am 11), .ref (am 12), .int (nI (j 5))])), (am 5, .inl (G.1, 12, .inl (nF (g 5)))), (am 6, .inl (G.1, 12, .inl (nF (g 6)))), (am 7, .inl (G.1, 12, .inl (nF (g 7)))), (am 8, .inl (G.1, 12, .inl (nF (g 8)))), (am 10, .inl (G.1, 240, .inl (nF (g 10))))] H0) (rQl (acS (canW f (n 8) i9) 61) H0) 0 0 (rF H0) := by
  refine ro_start (Qc := fun H0 => (rQl (acS (canW f (n 8) i9) 61) H0)) (by decide) (Nat.le_of_ble_eq_true rfl) ?_
  intro p e s m args below meth c hx hb hr hts hown hlocks hml hP hK hA hH0 ls hl locs hS
  have hl : lv_has ls 8 [(0, .ref (am 0)), (1, .int (nI i9))] := hl
  have hI0 := hI
  have hM0 := hM
  obtain ⟨i4, i5, i6, iq, iw, il, i7, i8, ih9, ik, iF⟩ := hI
  obtain ⟨m2, m3, m4, m5, m0, m6, m7, m8⟩ := hM
  refine lv_lconst (v := 0) hx hb dX5_canBeOf_0 rfl ?_
  refine lv_lstore_n (lv' := [(2, .long (0)), (0, .ref (am 0)), (1, .int (nI i9))]) hx hb dX5_canBeOf_1 rfl hl (by decide) rfl (fun ls hl => ?_)
  refine lv_iconst (v := nI (0)) hx hb dX5_canBeOf_2 (by decide) ?_
  refine lv_istore (lv' := [(4, .int (nI 0)), (2, .long (0)), (0, .ref (am 0)), (1, .int (nI i9))]) hx hb dX5_canBeOf_3 hl (by decide) rfl (fun ls hl => ?_)
  have loop_1 : ∀ (fuel : Nat) (w : Nat), (w ≤ 61) → (61 - w) < fuel → ∀ (locs : List Loc), va_S (rF s.heap) s.heap s.heap locs → ∀ (ls : Array Slot), lv_has ls 8 [(0, .ref (am 0)), (1, .int (nI i9)), (2, .long (acS (canW f (n 8) i9) w)), (4, .int (nI w))] → W p l e (rmD 3) s m args below meth c s.heap locs 0 0 (MQ below (rQl (acS (canW f (n 8) i9) 61) s.heap) args s 0 0 (rF s.heap)) (F0 m 5 ls []) := by
    intro fuel
    induction fuel with
    | zero => intro w hw hfu; exact absurd hfu (Nat.not_lt_zero _)
    | succ fuel ih_2 =>
      intro w hw hfu locs hS ls hl
      refine lv_iload hx hb dX5_canBeOf_5 (lv_at hl 3 rfl) ?_
      refine lv_bipush (v := nI (60)) hx hb dX5_canBeOf_7 (by decide) ?_
      refine n_icmp_gt (tgt := 149) hx hb dX5_canBeOf_9 (by decide) (by omega) (by omega) (fun c_9 => ?_) (fun c_9 => ?_)
      · refine lv_lload_n hx hb dX5_canBeOf_149 rfl (lv_at hl 2 rfl) ?_
        exact ro_lret hx hb hr hlocks hS dX5_canBeOf_150 (by obtain rfl : w = 61 := (by omega); rfl)
      · refine lv_iconst (v := nI (1)) hx hb dX5_canBeOf_12 (by decide) ?_
        refine n_tope (show nI (1) = bI (canW f 0 i9 w) from bI_of_t (decide_eq_true (fun a ha => absurd ha (Nat.not_lt_zero a)))) ?_
        refine lv_istore (lv' := [(5, .int (bI (canW f 0 i9 w))), (0, .ref (am 0)), (1, .int (nI i9)), (2, .long (acS (canW f (n 8) i9) w)), (4, .int (nI w))]) hx hb dX5_canBeOf_13 hl (by decide) rfl (fun ls hl => ?_)
        refine lv_iconst (v := nI (0)) hx hb dX5_canBeOf_15 (by decide) ?_
        refine lv_istore (lv' := [(6, .int (nI 0)), (5, .int (bI (canW f 0 i9 w))), (0, .ref (am 0)), (1, .int (nI i9)), (2, .long (acS (canW f (n 8) i9) w)), (4, .int (nI w))]) hx hb dX5_canBeOf_16 hl (by decide) rfl (fun ls hl => ?_)
        have loop_3 : ∀ (fuel : Nat) (i : Nat), (i ≤ n 8) → (n 8 - i) < fuel → ∀ (locs : List Loc), va_S (rF s.heap) s.heap s.heap locs → ∀ (ls : Array Slot), lv_has ls 8 [(0, .ref (am 0)), (1, .int (nI i9)), (2, .long (acS (canW f (n 8) i9) w)), (4, .int (nI w)), (5, .int (bI (canW f i i9 w))), (6, .int (nI i))] → W p l e (rmD 3) s m args below meth c s.heap locs 0 0 (MQ below (rQl (acS (canW f (n 8) i9) 61) s.heap) args s 0 0 (rF s.heap)) (F0 m 18 ls []) := by
          intro fuel
          induction fuel with
          | zero => intro i hi hfu; exact absurd hfu (Nat.not_lt_zero _)
          | succ fuel ih_4 =>
            intro i hi hfu locs hS ls hl
            refine lv_iload hx hb dX5_canBeOf_18 (lv_at hl 5 rfl) ?_
            refine lv_aload_n hx hb dX5_canBeOf_20 rfl (lv_at hl 0 rfl) ?_
            refine va_get (D := D) (ci := 4) (v := .ref (am 10)) (C := RX5) (T := TX5) (N := 21) hx hb hts (iX5) hown hK hP 0 rfl rfl 17 (by decide) (hts _ (List.mem_cons_of_mem _ wt_617)) (fun _ h9 => h9) rfl dX5_canBeOf_21 ?_
            refine lv_bipush (v := nI (7)) hx hb dX5_canBeOf_24 (by decide) ?_
            refine n_iald hx hb hK hP 5 (f := g 10) rfl (by omega) dX5_canBeOf_26 ?_
            refine n_tope (show nI (g 10 7) = nI (n 8) from congrArg nI (m7)) ?_
            refine n_icmp_ge (tgt := 127) hx hb dX5_canBeOf_27 (by decide) (by omega) (by omega) (fun c_27 => ?_) (fun c_27 => ?_)
            · refine lv_lload_n hx hb dX5_canBeOf_127 rfl (lv_at hl 2 rfl) ?_
              refine lv_iload hx hb dX5_canBeOf_128 (lv_at hl 4 rfl) ?_
              refine b_if_eq (tgt := 140) hx hb dX5_canBeOf_130 (by decide) (fun c_130 => ?_) (fun c_130 => ?_)
              · refine lv_lconst (v := 0) hx hb dX5_canBeOf_140 rfl ?_
                refine lv_lor hx hb dX5_canBeOf_141 ?_
                refine n_topl (show ((acS (canW f (n 8) i9) w) ||| 0) = (acS (canW f (n 8) i9) (w + 1)) from (by obtain rfl : i = n 8 := (by omega); rw [acS, if_neg (by rw [c_130]; decide)])) ?_
                refine lv_lstore_n (lv' := [(2, .long (acS (canW f (n 8) i9) (w + 1))), (0, .ref (am 0)), (1, .int (nI i9)), (4, .int (nI w)), (5, .int (bI (canW f i i9 w))), (6, .int (nI i))]) hx hb dX5_canBeOf_142 rfl hl (by decide) rfl (fun ls hl => ?_)
                refine lv_iinc (v := nI (w + 1)) (lv' := [(4, .int (nI (w + 1))), (2, .long (acS (canW f (n 8) i9) (w + 1))), (0, .ref (am 0)), (1, .int (nI i9)), (5, .int (bI (canW f i i9 w))), (6, .int (nI i))]) hx hb dX5_canBeOf_143 hl (k := 3) rfl (nI_inc _ _) (by decide) rfl (fun ls hl => ?_)
                refine lv_goto (tgt := 5) hx hb dX5_canBeOf_146 (by decide) ?_
                exact ih_2 (w + 1) (by omega) (by omega) locs hS _ (lv_sub hl [2, 3, 1, 0] rfl)
              · refine lv_lconst (v := 1) hx hb dX5_canBeOf_133 rfl ?_
                refine lv_iload hx hb dX5_canBeOf_134 (lv_at hl 3 rfl) ?_
                refine lv_lshl hx hb dX5_canBeOf_136 rfl ?_
                refine lv_goto (tgt := 141) hx hb dX5_canBeOf_137 (by decide) ?_
                refine lv_lor hx hb dX5_canBeOf_141 ?_
                refine n_topl (show ((acS (canW f (n 8) i9) w) ||| (1 <<< ((nI (w)).toInt64 &&& 63))) = (acS (canW f (n 8) i9) (w + 1)) from (by obtain rfl : i = n 8 := (by omega); rw [acS, if_pos c_130]; rfl)) ?_
                refine lv_lstore_n (lv' := [(2, .long (acS (canW f (n 8) i9) (w + 1))), (0, .ref (am 0)), (1, .int (nI i9)), (4, .int (nI w)), (5, .int (bI (canW f i i9 w))), (6, .int (nI i))]) hx hb dX5_canBeOf_142 rfl hl (by decide) rfl (fun ls hl => ?_)
                refine lv_iinc (v := nI (w + 1)) (lv' := [(4, .int (nI (w + 1))), (2, .long (acS (canW f (n 8) i9) (w + 1))), (0, .ref (am 0)), (1, .int (nI i9)), (5, .int (bI (canW f i i9 w))), (6, .int (nI i))]) hx hb dX5_canBeOf_143 hl (k := 3) rfl (nI_inc _ _) (by decide) rfl (fun ls hl => ?_)
                refine lv_goto (tgt := 5) hx hb dX5_canBeOf_146 (by decide) ?_
                exact ih_2 (w + 1) (by omega) (by omega) locs hS _ (lv_sub hl [2, 3, 1, 0] rfl)
            · have e0 := iF i (by omega)
              have e1 := il _ e0.1
              have e2 := drk_lt e1 (show w ≤ 60 by omega) (show f 8 (6 * i + 1) ≤ 4096 by omega) e0.2.2.1
              refine lv_bipush (v := nI (8)) hx hb dX5_canBeOf_30 (by decide) ?_
              refine lv_bipush (v := nI (6)) hx hb dX5_canBeOf_32 (by decide) ?_
              refine lv_iload hx hb dX5_canBeOf_34 (lv_at hl 5 rfl) ?_
              refine n_imul hx hb dX5_canBeOf_36 ?_
              refine n_iadd hx hb dX5_canBeOf_37 ?_
              refine lv_istore (lv' := [(7, .int (nI (8 + (6 * i)))), (0, .ref (am 0)), (1, .int (nI i9)), (2, .long (acS (canW f (n 8) i9) w)), (4, .int (nI w)), (5, .int (bI (canW f i i9 w))), (6, .int (nI i))]) hx hb dX5_canBeOf_38 hl (by decide) rfl (fun ls hl => ?_)
              refine lv_iload hx hb dX5_canBeOf_40 (lv_at hl 5 rfl) ?_
              refine b_if_eq (tgt := 118) hx hb dX5_canBeOf_42 (by decide) (fun c_42 => ?_) (fun c_42 => ?_)
              · refine lv_iconst (v := nI (0)) hx hb dX5_canBeOf_118 (by decide) ?_
                refine n_tope (show nI (0) = bI (canW f (i + 1) i9 w) from bI_of_f (by rw [canW_s, c_42]; rfl)) ?_
                refine lv_istore (lv' := [(5, .int (bI (canW f (i + 1) i9 w))), (7, .int (nI (8 + (6 * i)))), (0, .ref (am 0)), (1, .int (nI i9)), (2, .long (acS (canW f (n 8) i9) w)), (4, .int (nI w)), (6, .int (nI i))]) hx hb dX5_canBeOf_119 hl (by decide) rfl (fun ls hl => ?_)
                refine lv_iinc (v := nI (i + 1)) (lv' := [(6, .int (nI (i + 1))), (5, .int (bI (canW f (i + 1) i9 w))), (7, .int (nI (8 + (6 * i)))), (0, .ref (am 0)), (1, .int (nI i9)), (2, .long (acS (canW f (n 8) i9) w)), (4, .int (nI w))]) hx hb dX5_canBeOf_121 hl (k := 6) rfl (nI_inc _ _) (by decide) rfl (fun ls hl => ?_)
                refine lv_goto (tgt := 18) hx hb dX5_canBeOf_124 (by decide) ?_
                exact ih_4 (i + 1) (by omega) (by omega) locs hS _ (lv_sub hl [3, 4, 5, 6, 1, 0] rfl)
              · refine lv_aload_n hx hb dX5_canBeOf_45 rfl (lv_at hl 1 rfl) ?_
                refine va_get (D := D) (ci := 4) (v := .ref (am 10)) (C := RX5) (T := TX5) (N := 21) hx hb hts (iX5) hown hK hP 0 rfl rfl 17 (by decide) (hts _ (List.mem_cons_of_mem _ wt_617)) (fun _ h9 => h9) rfl dX5_canBeOf_46 ?_
                refine lv_iload hx hb dX5_canBeOf_49 (lv_at hl 0 rfl) ?_
                refine lv_iconst (v := nI (5)) hx hb dX5_canBeOf_51 (by decide) ?_
                refine n_iadd hx hb dX5_canBeOf_52 ?_
                refine n_iald hx hb hK hP 5 (f := g 10) rfl (by omega) dX5_canBeOf_53 ?_
                refine n_tope (show nI (g 10 ((8 + (6 * i)) + 5)) = nI (f 8 (6 * i + 5)) from congrArg nI ((congrArg (g 10) (show 8 + 6 * i + 5 = 8 + (6 * i + 5) by omega)).trans (m8 (6 * i + 5) (by omega)))) ?_
                refine lv_iconst (v := nI (1)) hx hb dX5_canBeOf_54 (by decide) ?_
                refine n_icmp_eq (tgt := 114) hx hb dX5_canBeOf_55 (by decide) (by omega) (by omega) (fun c_55 => ?_) (fun c_55 => ?_)
                · refine lv_iconst (v := nI (1)) hx hb dX5_canBeOf_114 (by decide) ?_
                  refine n_tope (show nI (1) = bI (canW f (i + 1) i9 w) from bI_of_t (by rw [canW_s, c_42, decide_eq_true (show cwP f i9 w i from fun _ z => absurd z (by omega))]; rfl)) ?_
                  refine lv_goto (tgt := 119) hx hb dX5_canBeOf_115 (by decide) ?_
                  refine lv_istore (lv' := [(5, .int (bI (canW f (i + 1) i9 w))), (7, .int (nI (8 + (6 * i)))), (0, .ref (am 0)), (1, .int (nI i9)), (2, .long (acS (canW f (n 8) i9) w)), (4, .int (nI w)), (6, .int (nI i))]) hx hb dX5_canBeOf_119 hl (by decide) rfl (fun ls hl => ?_)
                  refine lv_iinc (v := nI (i + 1)) (lv' := [(6, .int (nI (i + 1))), (5, .int (bI (canW f (i + 1) i9 w))), (7, .int (nI (8 + (6 * i)))), (0, .ref (am 0)), (1, .int (nI i9)), (2, .long (acS (canW f (n 8) i9) w)), (4, .int (nI w))]) hx hb dX5_canBeOf_121 hl (k := 6) rfl (nI_inc _ _) (by decide) rfl (fun ls hl => ?_)
                  refine lv_goto (tgt := 18) hx hb dX5_canBeOf_124 (by decide) ?_
                  exact ih_4 (i + 1) (by omega) (by omega) locs hS _ (lv_sub hl [3, 4, 5, 6, 1, 0] rfl)
                · refine lv_aload_n hx hb dX5_canBeOf_58 rfl (lv_at hl 1 rfl) ?_
                  refine va_get (D := D) (ci := 4) (v := .ref (am 10)) (C := RX5) (T := TX5) (N := 21) hx hb hts (iX5) hown hK hP 0 rfl rfl 17 (by decide) (hts _ (List.mem_cons_of_mem _ wt_617)) (fun _ h9 => h9) rfl dX5_canBeOf_59 ?_
                  refine lv_iload hx hb dX5_canBeOf_62 (lv_at hl 0 rfl) ?_
                  refine lv_iconst (v := nI (3)) hx hb dX5_canBeOf_64 (by decide) ?_
                  refine n_iadd hx hb dX5_canBeOf_65 ?_
                  refine n_iald hx hb hK hP 5 (f := g 10) rfl (by omega) dX5_canBeOf_66 ?_
                  refine n_tope (show nI (g 10 ((8 + (6 * i)) + 3)) = nI (f 8 (6 * i + 3)) from congrArg nI ((congrArg (g 10) (show 8 + 6 * i + 3 = 8 + (6 * i + 3) by omega)).trans (m8 (6 * i + 3) (by omega)))) ?_
                  refine lv_iload_n hx hb dX5_canBeOf_67 rfl (lv_at hl 2 rfl) ?_
                  refine n_icmp_ne (tgt := 114) hx hb dX5_canBeOf_68 (by decide) (by omega) (by omega) (fun c_68 => ?_) (fun c_68 => ?_)
                  · refine lv_iconst (v := nI (1)) hx hb dX5_canBeOf_114 (by decide) ?_
                    refine n_tope (show nI (1) = bI (canW f (i + 1) i9 w) from bI_of_t (by rw [canW_s, c_42, decide_eq_true (show cwP f i9 w i from fun z => absurd z c_68)]; rfl)) ?_
                    refine lv_goto (tgt := 119) hx hb dX5_canBeOf_115 (by decide) ?_
                    refine lv_istore (lv' := [(5, .int (bI (canW f (i + 1) i9 w))), (7, .int (nI (8 + (6 * i)))), (0, .ref (am 0)), (1, .int (nI i9)), (2, .long (acS (canW f (n 8) i9) w)), (4, .int (nI w)), (6, .int (nI i))]) hx hb dX5_canBeOf_119 hl (by decide) rfl (fun ls hl => ?_)
                    refine lv_iinc (v := nI (i + 1)) (lv' := [(6, .int (nI (i + 1))), (5, .int (bI (canW f (i + 1) i9 w))), (7, .int (nI (8 + (6 * i)))), (0, .ref (am 0)), (1, .int (nI i9)), (2, .long (acS (canW f (n 8) i9) w)), (4, .int (nI w))]) hx hb dX5_canBeOf_121 hl (k := 6) rfl (nI_inc _ _) (by decide) rfl (fun ls hl => ?_)
                    refine lv_goto (tgt := 18) hx hb dX5_canBeOf_124 (by decide) ?_
                    exact ih_4 (i + 1) (by omega) (by omega) locs hS _ (lv_sub hl [3, 4, 5, 6, 1, 0] rfl)
                  · refine lv_aload_n hx hb dX5_canBeOf_71 rfl (lv_at hl 1 rfl) ?_
                    refine lv_aload_n hx hb dX5_canBeOf_72 rfl (lv_at hl 1 rfl) ?_
                    refine va_get (D := D) (ci := 4) (v := .ref (am 10)) (C := RX5) (T := TX5) (N := 21) hx hb hts (iX5) hown hK hP 0 rfl rfl 17 (by decide) (hts _ (List.mem_cons_of_mem _ wt_617)) (fun _ h9 => h9) rfl dX5_canBeOf_73 ?_
                    refine lv_iload hx hb dX5_canBeOf_76 (lv_at hl 0 rfl) ?_
                    refine n_iald hx hb hK hP 5 (f := g 10) rfl (by omega) dX5_canBeOf_78 ?_
                    refine n_tope (show nI (g 10 (8 + (6 * i))) = nI (f 8 (6 * i + 0)) from congrArg nI (m8 (6 * i + 0) (by omega))) ?_
                    refine lv_iload hx hb dX5_canBeOf_79 (lv_at hl 4 rfl) ?_
                    refine lv_aload_n hx hb dX5_canBeOf_81 rfl (lv_at hl 1 rfl) ?_
                    refine va_get (D := D) (ci := 4) (v := .ref (am 10)) (C := RX5) (T := TX5) (N := 21) hx hb hts (iX5) hown hK hP 0 rfl rfl 17 (by decide) (hts _ (List.mem_cons_of_mem _ wt_617)) (fun _ h9 => h9) rfl dX5_canBeOf_82 ?_
                    refine lv_iload hx hb dX5_canBeOf_85 (lv_at hl 0 rfl) ?_
                    refine lv_iconst (v := nI (1)) hx hb dX5_canBeOf_87 (by decide) ?_
                    refine n_iadd hx hb dX5_canBeOf_88 ?_
                    refine n_iald hx hb hK hP 5 (f := g 10) rfl (by omega) dX5_canBeOf_89 ?_
                    refine n_tope (show nI (g 10 ((8 + (6 * i)) + 1)) = nI (f 8 (6 * i + 1)) from congrArg nI ((congrArg (g 10) (show 8 + 6 * i + 1 = 8 + (6 * i + 1) by omega)).trans (m8 (6 * i + 1) (by omega)))) ?_
                    refine lv_aload_n hx hb dX5_canBeOf_90 rfl (lv_at hl 1 rfl) ?_
                    refine va_get (D := D) (ci := 4) (v := .ref (am 10)) (C := RX5) (T := TX5) (N := 21) hx hb hts (iX5) hown hK hP 0 rfl rfl 17 (by decide) (hts _ (List.mem_cons_of_mem _ wt_617)) (fun _ h9 => h9) rfl dX5_canBeOf_91 ?_
                    refine lv_iload hx hb dX5_canBeOf_94 (lv_at hl 0 rfl) ?_
                    refine lv_iconst (v := nI (2)) hx hb dX5_canBeOf_96 (by decide) ?_
                    refine n_iadd hx hb dX5_canBeOf_97 ?_
                    refine n_iald hx hb hK hP 5 (f := g 10) rfl (by omega) dX5_canBeOf_98 ?_
                    refine n_tope (show nI (g 10 ((8 + (6 * i)) + 2)) = nI (f 8 (6 * i + 2)) from congrArg nI ((congrArg (g 10) (show 8 + 6 * i + 2 = 8 + (6 * i + 2) by omega)).trans (m8 (6 * i + 2) (by omega)))) ?_
                    refine ro_i (roV_run (As := [.int (nI (f 8 (6 * i + 0))), .int (nI w), .int (nI (f 8 (6 * i + 1))), .int (nI (f 8 (6 * i + 2)))]) (rest := []) hx hb hml hown hts Tg_M (c_X5_cupsOf l D G _ am n f k g j tx fl hh kp tr (f 8 (6 * i + 0)) w (f 8 (6 * i + 1)) (f 8 (6 * i + 2)) (by omega) il m5 (by omega) (by omega) (by omega) (by omega)) lk_RX5_112 ⟨rfl, rfl, Nat.le_of_ble_eq_true rfl, Nat.le_of_ble_eq_true rfl⟩ hP hK [0, 1, 2, 3, 4] rfl 0 4 rfl rfl rfl rfl hl rfl (Nat.le_of_ble_eq_true rfl) dX5_canBeOf_99 ⟨Nat.le_of_ble_eq_true rfl, Nat.le_of_ble_eq_true rfl⟩) hS hA (fun locs hS => ?_)
                    refine lv_aload_n hx hb dX5_canBeOf_102 rfl (lv_at hl 1 rfl) ?_
                    refine va_get (D := D) (ci := 4) (v := .ref (am 10)) (C := RX5) (T := TX5) (N := 21) hx hb hts (iX5) hown hK hP 0 rfl rfl 17 (by decide) (hts _ (List.mem_cons_of_mem _ wt_617)) (fun _ h9 => h9) rfl dX5_canBeOf_103 ?_
                    refine lv_iload hx hb dX5_canBeOf_106 (lv_at hl 0 rfl) ?_
                    refine lv_iconst (v := nI (4)) hx hb dX5_canBeOf_108 (by decide) ?_
                    refine n_iadd hx hb dX5_canBeOf_109 ?_
                    refine n_iald hx hb hK hP 5 (f := g 10) rfl (by omega) dX5_canBeOf_110 ?_
                    refine n_tope (show nI (g 10 ((8 + (6 * i)) + 4)) = nI (f 8 (6 * i + 4)) from congrArg nI ((congrArg (g 10) (show 8 + 6 * i + 4 = 8 + (6 * i + 4) by omega)).trans (m8 (6 * i + 4) (by omega)))) ?_
                    refine n_icmp_ne (tgt := 118) hx hb dX5_canBeOf_111 (by decide) (by omega) (by omega) (fun c_111 => ?_) (fun c_111 => ?_)
                    · refine lv_iconst (v := nI (0)) hx hb dX5_canBeOf_118 (by decide) ?_
                      refine n_tope (show nI (0) = bI (canW f (i + 1) i9 w) from bI_of_f (by rw [canW_s, decide_eq_false (show ¬ cwP f i9 w i from fun z => c_111 (z c_68 (by omega))), Bool.and_false])) ?_
                      refine lv_istore (lv' := [(5, .int (bI (canW f (i + 1) i9 w))), (7, .int (nI (8 + (6 * i)))), (0, .ref (am 0)), (1, .int (nI i9)), (2, .long (acS (canW f (n 8) i9) w)), (4, .int (nI w)), (6, .int (nI i))]) hx hb dX5_canBeOf_119 hl (by decide) rfl (fun ls hl => ?_)
                      refine lv_iinc (v := nI (i + 1)) (lv' := [(6, .int (nI (i + 1))), (5, .int (bI (canW f (i + 1) i9 w))), (7, .int (nI (8 + (6 * i)))), (0, .ref (am 0)), (1, .int (nI i9)), (2, .long (acS (canW f (n 8) i9) w)), (4, .int (nI w))]) hx hb dX5_canBeOf_121 hl (k := 6) rfl (nI_inc _ _) (by decide) rfl (fun ls hl => ?_)
                      refine lv_goto (tgt := 18) hx hb dX5_canBeOf_124 (by decide) ?_
                      exact ih_4 (i + 1) (by omega) (by omega) locs hS _ (lv_sub hl [3, 4, 5, 6, 1, 0] rfl)
                    · refine lv_iconst (v := nI (1)) hx hb dX5_canBeOf_114 (by decide) ?_
                      refine n_tope (show nI (1) = bI (canW f (i + 1) i9 w) from bI_of_t (by rw [canW_s, c_42, decide_eq_true (show cwP f i9 w i from fun _ _ => c_111)]; rfl)) ?_
                      refine lv_goto (tgt := 119) hx hb dX5_canBeOf_115 (by decide) ?_
                      refine lv_istore (lv' := [(5, .int (bI (canW f (i + 1) i9 w))), (7, .int (nI (8 + (6 * i)))), (0, .ref (am 0)), (1, .int (nI i9)), (2, .long (acS (canW f (n 8) i9) w)), (4, .int (nI w)), (6, .int (nI i))]) hx hb dX5_canBeOf_119 hl (by decide) rfl (fun ls hl => ?_)
                      refine lv_iinc (v := nI (i + 1)) (lv' := [(6, .int (nI (i + 1))), (5, .int (bI (canW f (i + 1) i9 w))), (7, .int (nI (8 + (6 * i)))), (0, .ref (am 0)), (1, .int (nI i9)), (2, .long (acS (canW f (n 8) i9) w)), (4, .int (nI w))]) hx hb dX5_canBeOf_121 hl (k := 6) rfl (nI_inc _ _) (by decide) rfl (fun ls hl => ?_)
                      refine lv_goto (tgt := 18) hx hb dX5_canBeOf_124 (by decide) ?_
                      exact ih_4 (i + 1) (by omega) (by omega) locs hS _ (lv_sub hl [3, 4, 5, 6, 1, 0] rfl)
        exact loop_3 (n 8 - 0 + 1) (0) (Nat.zero_le _) (Nat.lt_succ_self _) locs hS _ (lv_sub hl [2, 3, 4, 5, 1, 0] rfl)
  exact loop_1 (61 - 0 + 1) (0) (by omega) (Nat.lt_succ_self _) locs hS _ (lv_sub hl [2, 3, 1, 0] rfl)

set_option maxHeartbeats 4000000 in
set_option maxRecDepth 100000 in
theorem c_X5_manyOf (l : Launch) (D : va_G) (G : ClassId × ClassId × ClassId) (H0 : Heap) (lo hi : Nat) (hlo : lo ≤ hi) (hhi : hi ≤ 60) : Met l yX5_manyOf (wM yX5_manyOf cX5_manyOf 4 (some .int)) (rmD 1) (rP D G [.long (seI lo hi)] [] H0) (rQi (nI (hi - lo + 1)) H0) 0 0 (rF H0) := by
  refine ro_start (Qc := fun H0 => (rQi (nI (hi - lo + 1)) H0)) (by decide) (Nat.le_of_ble_eq_true rfl) ?_
  intro p e s m args below meth c hx hb hr hts hown hlocks hml hP hK hA hH0 ls hl locs hS
  have hl : lv_has ls 4 [(0, .long (seI lo hi))] := hl
  refine lv_iconst (v := nI (0)) hx hb dX5_manyOf_0 (by decide) ?_
  refine n_tope (show nI (0) = nI (min 0 (hi + 1) - lo) from congrArg nI (by omega)) ?_
  refine lv_istore_n (lv' := [(2, .int (nI (min 0 (hi + 1) - lo))), (0, .long (seI lo hi))]) hx hb dX5_manyOf_1 rfl hl (by decide) rfl (fun ls hl => ?_)
  refine lv_iconst (v := nI (0)) hx hb dX5_manyOf_2 (by decide) ?_
  refine lv_istore_n (lv' := [(3, .int (nI 0)), (2, .int (nI (min 0 (hi + 1) - lo))), (0, .long (seI lo hi))]) hx hb dX5_manyOf_3 rfl hl (by decide) rfl (fun ls hl => ?_)
  have loop_1 : ∀ (fuel : Nat) (w : Nat), (w ≤ 61) → (61 - w) < fuel → ∀ (locs : List Loc), va_S (rF s.heap) s.heap s.heap locs → ∀ (ls : Array Slot), lv_has ls 4 [(0, .long (seI lo hi)), (2, .int (nI (min w (hi + 1) - lo))), (3, .int (nI w))] → W p l e (rmD 1) s m args below meth c s.heap locs 0 0 (MQ below (rQi (nI (hi - lo + 1)) s.heap) args s 0 0 (rF s.heap)) (F0 m 4 ls []) := by
    intro fuel
    induction fuel with
    | zero => intro w hw hfu; exact absurd hfu (Nat.not_lt_zero _)
    | succ fuel ih_2 =>
      intro w hw hfu locs hS ls hl
      refine lv_iload_n hx hb dX5_manyOf_4 rfl (lv_at hl 2 rfl) ?_
      refine lv_bipush (v := nI (60)) hx hb dX5_manyOf_5 (by decide) ?_
      refine n_icmp_gt (tgt := 34) hx hb dX5_manyOf_7 (by decide) (by omega) (by omega) (fun c_7 => ?_) (fun c_7 => ?_)
      · refine lv_iload_n hx hb dX5_manyOf_34 rfl (lv_at hl 1 rfl) ?_
        exact ro_iret hx hb hr hlocks hS dX5_manyOf_35 (congrArg nI (by omega))
      · refine lv_iload_n hx hb dX5_manyOf_10 rfl (lv_at hl 1 rfl) ?_
        refine lv_lload_n hx hb dX5_manyOf_11 rfl (lv_at hl 0 rfl) ?_
        refine lv_iload_n hx hb dX5_manyOf_12 rfl (lv_at hl 2 rfl) ?_
        refine lv_lshr hx hb dX5_manyOf_13 rfl ?_
        refine lv_lconst (v := 1) hx hb dX5_manyOf_14 rfl ?_
        refine lv_land hx hb dX5_manyOf_15 ?_
        refine lv_lconst (v := 1) hx hb dX5_manyOf_16 rfl ?_
        refine W.lcmp hx hb dX5_manyOf_17 ?_
        refine lv_if_ne (tgt := 25) hx hb dX5_manyOf_18 (by decide) (fun c_18 => ?_) (fun c_18 => ?_)
        · have eb : ¬ (lo ≤ w ∧ w ≤ hi) := fun z => c_18 ((cmp1 (by omega)).mpr ((seI_bit (by omega) hhi).trans (decide_eq_true z)))
          refine lv_iconst (v := nI (0)) hx hb dX5_manyOf_25 (by decide) ?_
          refine n_iadd hx hb dX5_manyOf_26 ?_
          refine n_tope (show nI ((min w (hi + 1) - lo) + 0) = nI (min (w + 1) (hi + 1) - lo) from congrArg nI (by omega)) ?_
          refine lv_istore_n (lv' := [(2, .int (nI (min (w + 1) (hi + 1) - lo))), (0, .long (seI lo hi)), (3, .int (nI w))]) hx hb dX5_manyOf_27 rfl hl (by decide) rfl (fun ls hl => ?_)
          refine lv_iinc (v := nI (w + 1)) (lv' := [(3, .int (nI (w + 1))), (2, .int (nI (min (w + 1) (hi + 1) - lo))), (0, .long (seI lo hi))]) hx hb dX5_manyOf_28 hl (k := 2) rfl (nI_inc _ _) (by decide) rfl (fun ls hl => ?_)
          refine lv_goto (tgt := 4) hx hb dX5_manyOf_31 (by decide) ?_
          exact ih_2 (w + 1) (by omega) (by omega) locs hS _ (lv_sub hl [2, 1, 0] rfl)
        · have eb : lo ≤ w ∧ w ≤ hi := of_decide_eq_true ((seI_bit (by omega) hhi).symm.trans ((cmp1 (by omega)).mp c_18))
          refine lv_iconst (v := nI (1)) hx hb dX5_manyOf_21 (by decide) ?_
          refine lv_goto (tgt := 26) hx hb dX5_manyOf_22 (by decide) ?_
          refine n_iadd hx hb dX5_manyOf_26 ?_
          refine n_tope (show nI ((min w (hi + 1) - lo) + 1) = nI (min (w + 1) (hi + 1) - lo) from congrArg nI (by omega)) ?_
          refine lv_istore_n (lv' := [(2, .int (nI (min (w + 1) (hi + 1) - lo))), (0, .long (seI lo hi)), (3, .int (nI w))]) hx hb dX5_manyOf_27 rfl hl (by decide) rfl (fun ls hl => ?_)
          refine lv_iinc (v := nI (w + 1)) (lv' := [(3, .int (nI (w + 1))), (2, .int (nI (min (w + 1) (hi + 1) - lo))), (0, .long (seI lo hi))]) hx hb dX5_manyOf_28 hl (k := 2) rfl (nI_inc _ _) (by decide) rfl (fun ls hl => ?_)
          refine lv_goto (tgt := 4) hx hb dX5_manyOf_31 (by decide) ?_
          exact ih_2 (w + 1) (by omega) (by omega) locs hS _ (lv_sub hl [2, 1, 0] rfl)
  exact loop_1 (61 - 0 + 1) (0) (by omega) (Nat.lt_succ_self _) locs hS _ (lv_sub hl [2, 1, 0] rfl)

set_option maxHeartbeats 4000000 in
set_option maxRecDepth 100000 in
theorem c_X5_least (l : Launch) (D : va_G) (G : ClassId × ClassId × ClassId) (H0 : Heap) (lo hi : Nat) (hlo : lo ≤ hi) (hhi : hi ≤ 60) : Met l yX5_least (wM yX5_least cX5_least 3 (some .int)) (rmD 1) (rP D G [.long (seI lo hi)] [] H0) (rQi (nI lo) H0) 0 0 (rF H0) := by
  refine ro_start (Qc := fun H0 => (rQi (nI lo) H0)) (by decide) (Nat.le_of_ble_eq_true rfl) ?_
  intro p e s m args below meth c hx hb hr hts hown hlocks hml hP hK hA hH0 ls hl locs hS
  have hl : lv_has ls 3 [(0, .long (seI lo hi))] := hl
  refine lv_iconst (v := nI (0)) hx hb dX5_least_0 (by decide) ?_
  refine lv_istore_n (lv' := [(2, .int (nI 0)), (0, .long (seI lo hi))]) hx hb dX5_least_1 rfl hl (by decide) rfl (fun ls hl => ?_)
  have loop_1 : ∀ (fuel : Nat) (w : Nat), (w ≤ lo) → (hi - w) < fuel → ∀ (locs : List Loc), va_S (rF s.heap) s.heap s.heap locs → ∀ (ls : Array Slot), lv_has ls 3 [(0, .long (seI lo hi)), (2, .int (nI w))] → W p l e (rmD 1) s m args below meth c s.heap locs 0 0 (MQ below (rQi (nI lo) s.heap) args s 0 0 (rF s.heap)) (F0 m 2 ls []) := by
    intro fuel
    induction fuel with
    | zero => intro w hw hfu; exact absurd hfu (Nat.not_lt_zero _)
    | succ fuel ih_2 =>
      intro w hw hfu locs hS ls hl
      refine lv_lload_n hx hb dX5_least_2 rfl (lv_at hl 0 rfl) ?_
      refine lv_iload_n hx hb dX5_least_3 rfl (lv_at hl 1 rfl) ?_
      refine lv_lshr hx hb dX5_least_4 rfl ?_
      refine lv_lconst (v := 1) hx hb dX5_least_5 rfl ?_
      refine lv_land hx hb dX5_least_6 ?_
      refine lv_lconst (v := 0) hx hb dX5_least_7 rfl ?_
      refine W.lcmp hx hb dX5_least_8 ?_
      refine lv_if_ne (tgt := 18) hx hb dX5_least_9 (by decide) (fun c_9 => ?_) (fun c_9 => ?_)
      · have eb : lo ≤ w ∧ w ≤ hi := by have z : bt6 (seI lo hi) w = true := (Bool.eq_false_or_eq_true _).resolve_right (fun z => c_9 ((cmp0 (by omega)).mpr z)); exact of_decide_eq_true ((seI_bit (by omega) hhi).symm.trans z)
        refine lv_iload_n hx hb dX5_least_18 rfl (lv_at hl 1 rfl) ?_
        exact ro_iret hx hb hr hlocks hS dX5_least_19 (congrArg nI (by omega))
      · have eb : ¬ (lo ≤ w ∧ w ≤ hi) := of_decide_eq_false ((seI_bit (by omega) hhi).symm.trans ((cmp0 (by omega)).mp c_9))
        refine lv_iinc (v := nI (w + 1)) (lv' := [(2, .int (nI (w + 1))), (0, .long (seI lo hi))]) hx hb dX5_least_12 hl (k := 1) rfl (nI_inc _ _) (by decide) rfl (fun ls hl => ?_)
        refine lv_goto (tgt := 2) hx hb dX5_least_15 (by decide) ?_
        exact ih_2 (w + 1) (by omega) (by omega) locs hS _ (lv_sub hl [1, 0] rfl)
  exact loop_1 (hi - 0 + 1) (0) (by omega) (Nat.lt_succ_self _) locs hS _ (lv_sub hl [1, 0] rfl)

set_option maxHeartbeats 4000000 in
set_option maxRecDepth 100000 in
theorem c_X5_most (l : Launch) (D : va_G) (G : ClassId × ClassId × ClassId) (H0 : Heap) (lo hi : Nat) (hlo : lo ≤ hi) (hhi : hi ≤ 60) : Met l yX5_most (wM yX5_most cX5_most 3 (some .int)) (rmD 1) (rP D G [.long (seI lo hi)] [] H0) (rQi (nI hi) H0) 0 0 (rF H0) := by
  refine ro_start (Qc := fun H0 => (rQi (nI hi) H0)) (by decide) (Nat.le_of_ble_eq_true rfl) ?_
  intro p e s m args below meth c hx hb hr hts hown hlocks hml hP hK hA hH0 ls hl locs hS
  have hl : lv_has ls 3 [(0, .long (seI lo hi))] := hl
  refine lv_bipush (v := nI (60)) hx hb dX5_most_0 (by decide) ?_
  refine lv_istore_n (lv' := [(2, .int (nI 60)), (0, .long (seI lo hi))]) hx hb dX5_most_2 rfl hl (by decide) rfl (fun ls hl => ?_)
  have loop_1 : ∀ (fuel : Nat) (w : Nat), (hi ≤ w) → (w ≤ 60) → (w) < fuel → ∀ (locs : List Loc), va_S (rF s.heap) s.heap s.heap locs → ∀ (ls : Array Slot), lv_has ls 3 [(0, .long (seI lo hi)), (2, .int (nI w))] → W p l e (rmD 1) s m args below meth c s.heap locs 0 0 (MQ below (rQi (nI hi) s.heap) args s 0 0 (rF s.heap)) (F0 m 3 ls []) := by
    intro fuel
    induction fuel with
    | zero => intro w hw hw2 hfu; exact absurd hfu (Nat.not_lt_zero _)
    | succ fuel ih_2 =>
      intro w hw hw2 hfu locs hS ls hl
      refine lv_lload_n hx hb dX5_most_3 rfl (lv_at hl 0 rfl) ?_
      refine lv_iload_n hx hb dX5_most_4 rfl (lv_at hl 1 rfl) ?_
      refine lv_lshr hx hb dX5_most_5 rfl ?_
      refine lv_lconst (v := 1) hx hb dX5_most_6 rfl ?_
      refine lv_land hx hb dX5_most_7 ?_
      refine lv_lconst (v := 0) hx hb dX5_most_8 rfl ?_
      refine W.lcmp hx hb dX5_most_9 ?_
      refine lv_if_ne (tgt := 19) hx hb dX5_most_10 (by decide) (fun c_10 => ?_) (fun c_10 => ?_)
      · have eb : lo ≤ w ∧ w ≤ hi := by have z : bt6 (seI lo hi) w = true := (Bool.eq_false_or_eq_true _).resolve_right (fun z => c_10 ((cmp0 (by omega)).mpr z)); exact of_decide_eq_true ((seI_bit (by omega) hhi).symm.trans z)
        refine lv_iload_n hx hb dX5_most_19 rfl (lv_at hl 1 rfl) ?_
        exact ro_iret hx hb hr hlocks hS dX5_most_20 (congrArg nI (by omega))
      · have eb : ¬ (lo ≤ w ∧ w ≤ hi) := of_decide_eq_false ((seI_bit (by omega) hhi).symm.trans ((cmp0 (by omega)).mp c_10))
        refine lv_iinc (v := nI (w - 1)) (lv' := [(2, .int (nI (w - 1))), (0, .long (seI lo hi))]) hx hb dX5_most_13 hl (k := 1) rfl (nI_dec (k := 1) (by omega)) (by decide) rfl (fun ls hl => ?_)
        refine lv_goto (tgt := 3) hx hb dX5_most_16 (by decide) ?_
        exact ih_2 (w - 1) (by omega) (by omega) (by omega) locs hS _ (lv_sub hl [1, 0] rfl)
  exact loop_1 (60 + 1) (60) (by omega) (by omega) (Nat.lt_succ_self _) locs hS _ (lv_sub hl [1, 0] rfl)

set_option maxHeartbeats 4000000 in
set_option maxRecDepth 100000 in
theorem c_X5_canBe (l : Launch) (D : va_G) (G : ClassId × ClassId × ClassId) (H0 : Heap) (am n : Nat → Nat) (f : Nat → Nat → Nat) (k : Nat → Nat) (g : Nat → Nat → Nat) (j : Nat → Nat) (tx : Nat → Int32) (fl : Int32) (hh : Bool) (kp : Nat → Bool) (tr : Int64) (q : Nat) (a a2 : Int32) (hI : XI n f k q) (hM : RQ n f k g) : Met l yX5_canBe (wM yX5_canBe cX5_canBe 5 (some .int)) (rmD 4) (rP D G [.ref (am 0), .int (a), .int (a2)] [(am 0, .inr (4, [.long (tr), .ref (am 1), .int (nI (j 0)), .ref (am 2), .ref (am 3), .ref (am 4), .ref (am 5), .ref (am 6), .ref (am 7), .ref (am 8), .ref (am 9), .int (nI (j 1)), .int (nI (j 2)), .int (nI (j 3)), .int (nI (j 4)), .int (fl), .int (bI (hh)), .ref (am 10), .ref (am 11), .ref (am 12), .int (nI (j 5))])), (am 2, .inl (G.1, 2, .inl (nF (g 2)))), (am 5, .inl (G.1, 12, .inl (nF (g 5)))), (am 6, .inl (G.1, 12, .inl (nF (g 6)))), (am 7, .inl (G.1, 12, .inl (nF (g 7)))), (am 8, .inl (G.1, 12, .inl (nF (g 8)))), (am 10, .inl (G.1, 240, .inl (nF (g 10))))] H0) (rQi (spCanBe n f a a2) H0) 0 0 (rF H0) := by
  refine ro_start (Qc := fun H0 => (rQi (spCanBe n f a a2) H0)) (by decide) (Nat.le_of_ble_eq_true rfl) ?_
  intro p e s m args below meth c hx hb hr hts hown hlocks hml hP hK hA hH0 ls hl locs hS
  have hl : lv_has ls 5 [(0, .ref (am 0)), (1, .int (a)), (2, .int (a2))] := hl
  have hI0 := hI
  have hM0 := hM
  obtain ⟨i4, i5, i6, iq, iw, il, i7, i8, ih9, ik, iF⟩ := hI
  obtain ⟨m2, m3, m4, m5, m0, m6, m7, m8⟩ := hM
  refine lv_aload_n hx hb dX5_canBe_0 rfl (lv_at hl 0 rfl) ?_
  refine lv_iload_n hx hb dX5_canBe_1 rfl (lv_at hl 1 rfl) ?_
  refine ro_i (roV_run (As := [.int (a)]) (rest := []) hx hb hml hown hts Tg_M (c_X5_isLoad l D G _ am n f k g j tx fl hh kp tr q (a) hI0 hM0) lk_RX5_105 ⟨rfl, rfl, Nat.le_of_ble_eq_true rfl, Nat.le_of_ble_eq_true rfl⟩ hP hK [0, 1] rfl 0 4 rfl rfl rfl rfl hl rfl (Nat.le_of_ble_eq_true rfl) dX5_canBe_2 ⟨Nat.le_of_ble_eq_true rfl, Nat.le_of_ble_eq_true rfl⟩) hS hA (fun locs hS => ?_)
  refine b_if_eq (tgt := 17) hx hb dX5_canBe_5 (by decide) (fun c_5 => ?_) (fun c_5 => ?_)
  · have e_i := ix_no c_5
    refine lv_iconst (v := (-1)) hx hb dX5_canBe_17 (by decide) ?_
    exact ro_iret hx hb hr hlocks hS dX5_canBe_18 (by simp only [spCanBe, e_i, Option.elim])
  · obtain ⟨i, h_i, rfl⟩ := hasB_N (by omega) c_5
    have e_i := ix_yes h_i (show n 4 < 2 ^ 31 by omega)
    refine lv_iload_n hx hb dX5_canBe_8 rfl (lv_at hl 2 rfl) ?_
    refine lv_iconst (v := nI (0)) hx hb dX5_canBe_9 (by decide) ?_
    refine lv_iconst (v := nI (2)) hx hb dX5_canBe_10 (by decide) ?_
    refine ro_i (roS_run (As := [.int (a2), .int (nI 0), .int (nI 2)]) (rest := []) hx hb hml hown hts Tg_M (c_X5_in l D G _ (a2) (nI (0)) (nI (2))) lk_RX5_52 ⟨rfl, rfl, Nat.le_of_ble_eq_true rfl, Nat.le_of_ble_eq_true rfl⟩ hP hK [] rfl rfl hl rfl (Nat.le_of_ble_eq_true rfl) dX5_canBe_11 ⟨Nat.le_of_ble_eq_true rfl, Nat.le_of_ble_eq_true rfl⟩) hS hA (fun locs hS => ?_)
    refine b_if_ne (tgt := 19) hx hb dX5_canBe_14 (by decide) (fun c_14 => ?_) (fun c_14 => ?_)
    · obtain ⟨w, g_w, h_w, rfl⟩ := inR_N (by decide) (by decide) c_14
      have e_w := ir_yes g_w h_w (by decide)
      refine lv_aload_n hx hb dX5_canBe_19 rfl (lv_at hl 0 rfl) ?_
      refine lv_iload_n hx hb dX5_canBe_20 rfl (lv_at hl 1 rfl) ?_
      refine ro_l (roV_run (As := [.int (nI i)]) (rest := []) hx hb hml hown hts Tg_M (c_X5_canBeOf l D G _ am n f k g j tx fl hh kp tr q i hI0 hM0 (by omega)) lk_RX5_120 ⟨rfl, rfl, Nat.le_of_ble_eq_true rfl, Nat.le_of_ble_eq_true rfl⟩ hP hK [0, 2, 3, 4, 5, 6] rfl 0 4 rfl rfl rfl rfl hl rfl (Nat.le_of_ble_eq_true rfl) dX5_canBe_21 ⟨Nat.le_of_ble_eq_true rfl, Nat.le_of_ble_eq_true rfl⟩) hS hA (fun locs hS => ?_)
      refine n_topl (canW_iv hI0 h_i) ?_
      have z_i := lo_hi hI0 h_i
      have y_i := hiP_le (canW f (n 8) i)
      refine lv_lstore_n (lv' := [(3, .long (seI (loP (canW f (n 8) i)) (hiP (canW f (n 8) i)))), (0, .ref (am 0)), (1, .int (nI i)), (2, .int (nI w))]) hx hb dX5_canBe_24 rfl hl (by decide) rfl (fun ls hl => ?_)
      refine lv_iload_n hx hb dX5_canBe_25 rfl (lv_at hl 3 rfl) ?_
      refine n_if_ne (tgt := 36) hx hb dX5_canBe_26 (by decide) (by omega) (fun c_26 => ?_) (fun c_26 => ?_)
      · refine lv_iload_n hx hb dX5_canBe_36 rfl (lv_at hl 3 rfl) ?_
        refine lv_iconst (v := nI (1)) hx hb dX5_canBe_37 (by decide) ?_
        refine n_icmp_ne (tgt := 48) hx hb dX5_canBe_38 (by decide) (by omega) (by omega) (fun c_38 => ?_) (fun c_38 => ?_)
        · refine lv_lload_n hx hb dX5_canBe_48 rfl (lv_at hl 0 rfl) ?_
          refine ro_i (roS_run (As := [.long (seI (loP (canW f (n 8) i)) (hiP (canW f (n 8) i)))]) (rest := []) hx hb hml hown hts Tg_M (c_X5_most l D G _ (loP (canW f (n 8) i)) (hiP (canW f (n 8) i)) (by omega) (by omega)) lk_RX5_131 ⟨rfl, rfl, Nat.le_of_ble_eq_true rfl, Nat.le_of_ble_eq_true rfl⟩ hP hK [] rfl rfl hl rfl (Nat.le_of_ble_eq_true rfl) dX5_canBe_49 ⟨Nat.le_of_ble_eq_true rfl, Nat.le_of_ble_eq_true rfl⟩) hS hA (fun locs hS => ?_)
          exact ro_iret hx hb hr hlocks hS dX5_canBe_52 (by simp only [spCanBe, e_i, e_w, Option.elim, if_neg c_26, if_neg c_38])
        · refine lv_lload_n hx hb dX5_canBe_41 rfl (lv_at hl 0 rfl) ?_
          refine ro_i (roS_run (As := [.long (seI (loP (canW f (n 8) i)) (hiP (canW f (n 8) i)))]) (rest := []) hx hb hml hown hts Tg_M (c_X5_least l D G _ (loP (canW f (n 8) i)) (hiP (canW f (n 8) i)) (by omega) (by omega)) lk_RX5_128 ⟨rfl, rfl, Nat.le_of_ble_eq_true rfl, Nat.le_of_ble_eq_true rfl⟩ hP hK [] rfl rfl hl rfl (Nat.le_of_ble_eq_true rfl) dX5_canBe_42 ⟨Nat.le_of_ble_eq_true rfl, Nat.le_of_ble_eq_true rfl⟩) hS hA (fun locs hS => ?_)
          refine lv_goto (tgt := 52) hx hb dX5_canBe_45 (by decide) ?_
          exact ro_iret hx hb hr hlocks hS dX5_canBe_52 (by simp only [spCanBe, e_i, e_w, Option.elim, if_neg c_26, if_pos c_38])
      · refine lv_lload_n hx hb dX5_canBe_29 rfl (lv_at hl 0 rfl) ?_
        refine ro_i (roS_run (As := [.long (seI (loP (canW f (n 8) i)) (hiP (canW f (n 8) i)))]) (rest := []) hx hb hml hown hts Tg_M (c_X5_manyOf l D G _ (loP (canW f (n 8) i)) (hiP (canW f (n 8) i)) (by omega) (by omega)) lk_RX5_124 ⟨rfl, rfl, Nat.le_of_ble_eq_true rfl, Nat.le_of_ble_eq_true rfl⟩ hP hK [] rfl rfl hl rfl (Nat.le_of_ble_eq_true rfl) dX5_canBe_30 ⟨Nat.le_of_ble_eq_true rfl, Nat.le_of_ble_eq_true rfl⟩) hS hA (fun locs hS => ?_)
        refine lv_goto (tgt := 52) hx hb dX5_canBe_33 (by decide) ?_
        exact ro_iret hx hb hr hlocks hS dX5_canBe_52 (by simp only [spCanBe, e_i, e_w, Option.elim, if_pos c_26])
    · have e_w := ir_no c_14
      refine lv_iconst (v := (-1)) hx hb dX5_canBe_17 (by decide) ?_
      exact ro_iret hx hb hr hlocks hS dX5_canBe_18 (by simp only [spCanBe, e_i, e_w, Option.elim])

set_option maxHeartbeats 4000000 in
set_option maxRecDepth 100000 in
theorem c_X5_heavier (l : Launch) (D : va_G) (G : ClassId × ClassId × ClassId) (H0 : Heap) (am n : Nat → Nat) (f : Nat → Nat → Nat) (k : Nat → Nat) (g : Nat → Nat → Nat) (j : Nat → Nat) (tx : Nat → Int32) (fl : Int32) (hh : Bool) (kp : Nat → Bool) (tr : Int64) (q : Nat) (a a2 : Int32) (hI : XI n f k q) (hM : RQ n f k g) : Met l yX5_heavier (wM yX5_heavier cX5_heavier 7 (some .int)) (rmD 4) (rP D G [.ref (am 0), .int (a), .int (a2)] [(am 0, .inr (4, [.long (tr), .ref (am 1), .int (nI (j 0)), .ref (am 2), .ref (am 3), .ref (am 4), .ref (am 5), .ref (am 6), .ref (am 7), .ref (am 8), .ref (am 9), .int (nI (j 1)), .int (nI (j 2)), .int (nI (j 3)), .int (nI (j 4)), .int (fl), .int (bI (hh)), .ref (am 10), .ref (am 11), .ref (am 12), .int (nI (j 5))])), (am 2, .inl (G.1, 2, .inl (nF (g 2)))), (am 5, .inl (G.1, 12, .inl (nF (g 5)))), (am 6, .inl (G.1, 12, .inl (nF (g 6)))), (am 7, .inl (G.1, 12, .inl (nF (g 7)))), (am 8, .inl (G.1, 12, .inl (nF (g 8)))), (am 10, .inl (G.1, 240, .inl (nF (g 10))))] H0) (rQi (spHeav n f a a2) H0) 0 0 (rF H0) := by
  refine ro_start (Qc := fun H0 => (rQi (spHeav n f a a2) H0)) (by decide) (Nat.le_of_ble_eq_true rfl) ?_
  intro p e s m args below meth c hx hb hr hts hown hlocks hml hP hK hA hH0 ls hl locs hS
  have hl : lv_has ls 7 [(0, .ref (am 0)), (1, .int (a)), (2, .int (a2))] := hl
  have hI0 := hI
  have hM0 := hM
  obtain ⟨i4, i5, i6, iq, iw, il, i7, i8, ih9, ik, iF⟩ := hI
  obtain ⟨m2, m3, m4, m5, m0, m6, m7, m8⟩ := hM
  refine lv_aload_n hx hb dX5_heavier_0 rfl (lv_at hl 0 rfl) ?_
  refine lv_iload_n hx hb dX5_heavier_1 rfl (lv_at hl 1 rfl) ?_
  refine ro_i (roV_run (As := [.int (a)]) (rest := []) hx hb hml hown hts Tg_M (c_X5_isLoad l D G _ am n f k g j tx fl hh kp tr q (a) hI0 hM0) lk_RX5_105 ⟨rfl, rfl, Nat.le_of_ble_eq_true rfl, Nat.le_of_ble_eq_true rfl⟩ hP hK [0, 1] rfl 0 4 rfl rfl rfl rfl hl rfl (Nat.le_of_ble_eq_true rfl) dX5_heavier_2 ⟨Nat.le_of_ble_eq_true rfl, Nat.le_of_ble_eq_true rfl⟩) hS hA (fun locs hS => ?_)
  refine b_if_eq (tgt := 21) hx hb dX5_heavier_5 (by decide) (fun c_5 => ?_) (fun c_5 => ?_)
  · have e_i := ix_no c_5
    refine lv_iconst (v := (-1)) hx hb dX5_heavier_21 (by decide) ?_
    exact ro_iret hx hb hr hlocks hS dX5_heavier_22 (by simp only [spHeav, e_i, Option.elim])
  · obtain ⟨i, h_i, rfl⟩ := hasB_N (by omega) c_5
    have e_i := ix_yes h_i (show n 4 < 2 ^ 31 by omega)
    refine lv_aload_n hx hb dX5_heavier_8 rfl (lv_at hl 0 rfl) ?_
    refine lv_iload_n hx hb dX5_heavier_9 rfl (lv_at hl 2 rfl) ?_
    refine ro_i (roV_run (As := [.int (a2)]) (rest := []) hx hb hml hown hts Tg_M (c_X5_isLoad l D G _ am n f k g j tx fl hh kp tr q (a2) hI0 hM0) lk_RX5_105 ⟨rfl, rfl, Nat.le_of_ble_eq_true rfl, Nat.le_of_ble_eq_true rfl⟩ hP hK [0, 1] rfl 0 4 rfl rfl rfl rfl hl rfl (Nat.le_of_ble_eq_true rfl) dX5_heavier_10 ⟨Nat.le_of_ble_eq_true rfl, Nat.le_of_ble_eq_true rfl⟩) hS hA (fun locs hS => ?_)
    refine b_if_eq (tgt := 21) hx hb dX5_heavier_13 (by decide) (fun c_13 => ?_) (fun c_13 => ?_)
    · have e_i2 := ix_no c_13
      refine lv_iconst (v := (-1)) hx hb dX5_heavier_21 (by decide) ?_
      exact ro_iret hx hb hr hlocks hS dX5_heavier_22 (by simp only [spHeav, e_i, e_i2, Option.elim])
    · obtain ⟨i2, h_i2, rfl⟩ := hasB_N (by omega) c_13
      have e_i2 := ix_yes h_i2 (show n 4 < 2 ^ 31 by omega)
      refine lv_iload_n hx hb dX5_heavier_16 rfl (lv_at hl 1 rfl) ?_
      refine lv_iload_n hx hb dX5_heavier_17 rfl (lv_at hl 2 rfl) ?_
      refine n_icmp_ne (tgt := 23) hx hb dX5_heavier_18 (by decide) (by omega) (by omega) (fun c_18 => ?_) (fun c_18 => ?_)
      · refine lv_aload_n hx hb dX5_heavier_23 rfl (lv_at hl 0 rfl) ?_
        refine lv_iload_n hx hb dX5_heavier_24 rfl (lv_at hl 1 rfl) ?_
        refine ro_l (roV_run (As := [.int (nI i)]) (rest := []) hx hb hml hown hts Tg_M (c_X5_canBeOf l D G _ am n f k g j tx fl hh kp tr q i hI0 hM0 (by omega)) lk_RX5_120 ⟨rfl, rfl, Nat.le_of_ble_eq_true rfl, Nat.le_of_ble_eq_true rfl⟩ hP hK [0, 2, 3, 4, 5, 6] rfl 0 4 rfl rfl rfl rfl hl rfl (Nat.le_of_ble_eq_true rfl) dX5_heavier_25 ⟨Nat.le_of_ble_eq_true rfl, Nat.le_of_ble_eq_true rfl⟩) hS hA (fun locs hS => ?_)
        refine n_topl (canW_iv hI0 h_i) ?_
        have z_i := lo_hi hI0 h_i
        have y_i := hiP_le (canW f (n 8) i)
        refine lv_lstore_n (lv' := [(3, .long (seI (loP (canW f (n 8) i)) (hiP (canW f (n 8) i)))), (0, .ref (am 0)), (1, .int (nI i)), (2, .int (nI i2))]) hx hb dX5_heavier_28 rfl hl (by decide) rfl (fun ls hl => ?_)
        refine lv_aload_n hx hb dX5_heavier_29 rfl (lv_at hl 1 rfl) ?_
        refine lv_iload_n hx hb dX5_heavier_30 rfl (lv_at hl 3 rfl) ?_
        refine ro_l (roV_run (As := [.int (nI i2)]) (rest := []) hx hb hml hown hts Tg_M (c_X5_canBeOf l D G _ am n f k g j tx fl hh kp tr q i2 hI0 hM0 (by omega)) lk_RX5_120 ⟨rfl, rfl, Nat.le_of_ble_eq_true rfl, Nat.le_of_ble_eq_true rfl⟩ hP hK [0, 2, 3, 4, 5, 6] rfl 0 4 rfl rfl rfl rfl hl rfl (Nat.le_of_ble_eq_true rfl) dX5_heavier_31 ⟨Nat.le_of_ble_eq_true rfl, Nat.le_of_ble_eq_true rfl⟩) hS hA (fun locs hS => ?_)
        refine n_topl (canW_iv hI0 h_i2) ?_
        have z_i2 := lo_hi hI0 h_i2
        have y_i2 := hiP_le (canW f (n 8) i2)
        refine lv_lstore (lv' := [(5, .long (seI (loP (canW f (n 8) i2)) (hiP (canW f (n 8) i2)))), (3, .long (seI (loP (canW f (n 8) i)) (hiP (canW f (n 8) i)))), (0, .ref (am 0)), (1, .int (nI i)), (2, .int (nI i2))]) hx hb dX5_heavier_34 hl (by decide) rfl (fun ls hl => ?_)
        refine lv_lload_n hx hb dX5_heavier_36 rfl (lv_at hl 1 rfl) ?_
        refine ro_i (roS_run (As := [.long (seI (loP (canW f (n 8) i)) (hiP (canW f (n 8) i)))]) (rest := []) hx hb hml hown hts Tg_M (c_X5_least l D G _ (loP (canW f (n 8) i)) (hiP (canW f (n 8) i)) (by omega) (by omega)) lk_RX5_128 ⟨rfl, rfl, Nat.le_of_ble_eq_true rfl, Nat.le_of_ble_eq_true rfl⟩ hP hK [] rfl rfl hl rfl (Nat.le_of_ble_eq_true rfl) dX5_heavier_37 ⟨Nat.le_of_ble_eq_true rfl, Nat.le_of_ble_eq_true rfl⟩) hS hA (fun locs hS => ?_)
        refine lv_lload hx hb dX5_heavier_40 (lv_at hl 0 rfl) ?_
        refine ro_i (roS_run (As := [.long (seI (loP (canW f (n 8) i2)) (hiP (canW f (n 8) i2)))]) (rest := [.int (nI ((loP (canW f (n 8) i))))]) hx hb hml hown hts Tg_M (c_X5_most l D G _ (loP (canW f (n 8) i2)) (hiP (canW f (n 8) i2)) (by omega) (by omega)) lk_RX5_131 ⟨rfl, rfl, Nat.le_of_ble_eq_true rfl, Nat.le_of_ble_eq_true rfl⟩ hP hK [] rfl rfl hl rfl (Nat.le_of_ble_eq_true rfl) dX5_heavier_42 ⟨Nat.le_of_ble_eq_true rfl, Nat.le_of_ble_eq_true rfl⟩) hS hA (fun locs hS => ?_)
        refine n_icmp_le (tgt := 52) hx hb dX5_heavier_45 (by decide) (by omega) (by omega) (fun c_45 => ?_) (fun c_45 => ?_)
        · refine lv_lload_n hx hb dX5_heavier_52 rfl (lv_at hl 1 rfl) ?_
          refine ro_i (roS_run (As := [.long (seI (loP (canW f (n 8) i)) (hiP (canW f (n 8) i)))]) (rest := []) hx hb hml hown hts Tg_M (c_X5_most l D G _ (loP (canW f (n 8) i)) (hiP (canW f (n 8) i)) (by omega) (by omega)) lk_RX5_131 ⟨rfl, rfl, Nat.le_of_ble_eq_true rfl, Nat.le_of_ble_eq_true rfl⟩ hP hK [] rfl rfl hl rfl (Nat.le_of_ble_eq_true rfl) dX5_heavier_53 ⟨Nat.le_of_ble_eq_true rfl, Nat.le_of_ble_eq_true rfl⟩) hS hA (fun locs hS => ?_)
          refine lv_lload hx hb dX5_heavier_56 (lv_at hl 0 rfl) ?_
          refine ro_i (roS_run (As := [.long (seI (loP (canW f (n 8) i2)) (hiP (canW f (n 8) i2)))]) (rest := [.int (nI ((hiP (canW f (n 8) i))))]) hx hb hml hown hts Tg_M (c_X5_least l D G _ (loP (canW f (n 8) i2)) (hiP (canW f (n 8) i2)) (by omega) (by omega)) lk_RX5_128 ⟨rfl, rfl, Nat.le_of_ble_eq_true rfl, Nat.le_of_ble_eq_true rfl⟩ hP hK [] rfl rfl hl rfl (Nat.le_of_ble_eq_true rfl) dX5_heavier_58 ⟨Nat.le_of_ble_eq_true rfl, Nat.le_of_ble_eq_true rfl⟩) hS hA (fun locs hS => ?_)
          refine n_icmp_ge (tgt := 69) hx hb dX5_heavier_61 (by decide) (by omega) (by omega) (fun c_61 => ?_) (fun c_61 => ?_)
          · refine lv_iconst (v := nI (0)) hx hb dX5_heavier_69 (by decide) ?_
            exact ro_iret hx hb hr hlocks hS dX5_heavier_70 (by simp only [spHeav, e_i, e_i2, Option.elim, if_neg c_18, if_neg (Nat.not_lt.mpr c_45), if_neg (Nat.not_lt.mpr c_61)]; rfl)
          · refine lv_bipush (v := (-2)) hx hb dX5_heavier_64 (by decide) ?_
            refine lv_goto (tgt := 70) hx hb dX5_heavier_66 (by decide) ?_
            exact ro_iret hx hb hr hlocks hS dX5_heavier_70 (by simp only [spHeav, e_i, e_i2, Option.elim, if_neg c_18, if_neg (Nat.not_lt.mpr c_45), if_pos c_61])
        · refine lv_iconst (v := nI (1)) hx hb dX5_heavier_48 (by decide) ?_
          refine lv_goto (tgt := 70) hx hb dX5_heavier_49 (by decide) ?_
          exact ro_iret hx hb hr hlocks hS dX5_heavier_70 (by simp only [spHeav, e_i, e_i2, Option.elim, if_neg c_18, if_pos c_45]; rfl)
      · refine lv_iconst (v := (-1)) hx hb dX5_heavier_21 (by decide) ?_
        exact ro_iret hx hb hr hlocks hS dX5_heavier_22 (by simp only [spHeav, e_i, e_i2, Option.elim, if_pos c_18])
