set_option maxHeartbeats 4000000 in
set_option maxRecDepth 100000 in
theorem c_X4_load (l : Launch) (D : va_G) (G : ClassId × ClassId × ClassId) (H0 : Heap) (ad n : Nat → Nat) (f : Nat → Nat → Nat) (k : Nat → Nat) (b : Nat → Bool) (tr : Int64) (q : Nat) (a : Int32) (hI : XI n f k q) : Met l yX4_load (wM yX4_load cX4_load 2 (some .int)) (rmD 3) (rP D G [.ref (ad 0), .int (a)] [(ad 0, .inr (3, [.ref (ad 1), .ref (ad 10), .ref (ad 12), .ref (ad 14), .ref (ad 16), .ref (ad 21), .ref (ad 26), .int (bI (b 1)), .int (bI (b 2)), .long (tr)])), (ad 10, .inr (2, [.ref (ad 11), .int (nI (n 4))])), (ad 11, .inl (G.1, 5, .inl (nF (f 4))))] H0) (rQi (spLoad n f a) H0) 0 0 (rF H0) := by
  refine ro_start (Qc := fun H0 => (rQi (spLoad n f a) H0)) (by decide) (Nat.le_of_ble_eq_true rfl) ?_
  intro p e s m args below meth c hx hb hr hts hown hlocks hml hP hK hA hH0 ls hl locs hS
  have hl : lv_has ls 2 [(0, .ref (ad 0)), (1, .int (a))] := hl
  have hI0 := hI
  obtain ⟨i4, i5, i6, iq, iw, il, i7, i8, ih9, ik, iF⟩ := hI
  refine lv_aload_n hx hb dX4_load_0 rfl (lv_at hl 0 rfl) ?_
  refine lv_iload_n hx hb dX4_load_1 rfl (lv_at hl 1 rfl) ?_
  refine ro_i (roV_run (As := [.int (a)]) (rest := []) hx hb hml hown hts Tg_M (c_X4_isLoad l D G _ ad n f k b tr (a) ) lk_RX4_98 ⟨rfl, rfl, Nat.le_of_ble_eq_true rfl, Nat.le_of_ble_eq_true rfl⟩ hP hK [0, 1, 2] rfl 0 3 rfl rfl rfl rfl hl rfl (Nat.le_of_ble_eq_true rfl) dX4_load_2 ⟨Nat.le_of_ble_eq_true rfl, Nat.le_of_ble_eq_true rfl⟩) hS hA (fun locs hS => ?_)
  refine b_if_eq (tgt := 19) hx hb dX4_load_5 (by decide) (fun c_5 => ?_) (fun c_5 => ?_)
  · have e_j := ix_no c_5
    refine lv_iconst (v := (-1)) hx hb dX4_load_19 (by decide) ?_
    exact ro_iret hx hb hr hlocks hS dX4_load_20 (by simp only [spLoad, e_j, Option.elim])
  · obtain ⟨j, h_j, rfl⟩ := hasB_N (by omega) c_5
    have e_j := ix_yes h_j (show n 4 < 2 ^ 31 by omega)
    refine lv_aload_n hx hb dX4_load_8 rfl (lv_at hl 0 rfl) ?_
    refine va_get (D := D) (ci := 3) (v := .ref (ad 10)) (C := RX4) (T := TX4) (N := 10) hx hb hts (iX4) hown hK hP 0 rfl rfl 1 (by decide) (hts _ (List.mem_cons_of_mem _ wt_157)) (fun _ h9 => h9) rfl dX4_load_9 ?_
    refine lv_iload_n hx hb dX4_load_12 rfl (lv_at hl 1 rfl) ?_
    refine ro_i (roV_run (As := [.int (nI j)]) (rest := []) hx hb hml hown hts Tg_M (c_X3_at l D G _ (ad 10) (ad 11) 5 (n 4) (f 4) j (by omega) (by omega) (by omega)) lk_RX4_102 ⟨rfl, rfl, Nat.le_of_ble_eq_true rfl, Nat.le_of_ble_eq_true rfl⟩ hP hK [1, 2] rfl 1 2 rfl rfl rfl rfl hl rfl (Nat.le_of_ble_eq_true rfl) dX4_load_13 ⟨Nat.le_of_ble_eq_true rfl, Nat.le_of_ble_eq_true rfl⟩) hS hA (fun locs hS => ?_)
    refine lv_goto (tgt := 20) hx hb dX4_load_16 (by decide) ?_
    exact ro_iret hx hb hr hlocks hS dX4_load_20 (by simp only [spLoad, e_j, Option.elim])

set_option maxHeartbeats 4000000 in
set_option maxRecDepth 100000 in
theorem c_X4_taster (l : Launch) (D : va_G) (G : ClassId × ClassId × ClassId) (H0 : Heap) (ad n : Nat → Nat) (f : Nat → Nat → Nat) (k : Nat → Nat) (b : Nat → Bool) (tr : Int64) (q : Nat) (a a2 : Int32) (hI : XI n f k q) : Met l yX4_taster (wM yX4_taster cX4_taster 3 (some .int)) (rmD 3) (rP D G [.ref (ad 0), .int (a), .int (a2)] [(ad 0, .inr (3, [.ref (ad 1), .ref (ad 10), .ref (ad 12), .ref (ad 14), .ref (ad 16), .ref (ad 21), .ref (ad 26), .int (bI (b 1)), .int (bI (b 2)), .long (tr)])), (ad 12, .inr (2, [.ref (ad 13), .int (nI (n 5))])), (ad 13, .inl (G.1, 6, .inl (nF (f 5)))), (ad 16, .inr (0, [.ref (ad 17), .ref (ad 19), .int (nI (k 5))])), (ad 17, .inr (2, [.ref (ad 18), .int (nI (n 7))])), (ad 18, .inl (G.1, 6, .inl (nF (f 7))))] H0) (rQi (spTaster n f a a2) H0) 0 0 (rF H0) := by
  refine ro_start (Qc := fun H0 => (rQi (spTaster n f a a2) H0)) (by decide) (Nat.le_of_ble_eq_true rfl) ?_
  intro p e s m args below meth c hx hb hr hts hown hlocks hml hP hK hA hH0 ls hl locs hS
  have hl : lv_has ls 3 [(0, .ref (ad 0)), (1, .int (a)), (2, .int (a2))] := hl
  have hI0 := hI
  obtain ⟨i4, i5, i6, iq, iw, il, i7, i8, ih9, ik, iF⟩ := hI
  refine lv_aload_n hx hb dX4_taster_0 rfl (lv_at hl 0 rfl) ?_
  refine lv_iload_n hx hb dX4_taster_1 rfl (lv_at hl 1 rfl) ?_
  refine ro_i (roV_run (As := [.int (a)]) (rest := []) hx hb hml hown hts Tg_M (c_X4_isTaster l D G _ ad n f k b tr (a) ) lk_RX4_106 ⟨rfl, rfl, Nat.le_of_ble_eq_true rfl, Nat.le_of_ble_eq_true rfl⟩ hP hK [0, 1, 2] rfl 0 3 rfl rfl rfl rfl hl rfl (Nat.le_of_ble_eq_true rfl) dX4_taster_2 ⟨Nat.le_of_ble_eq_true rfl, Nat.le_of_ble_eq_true rfl⟩) hS hA (fun locs hS => ?_)
  refine b_if_eq (tgt := 17) hx hb dX4_taster_5 (by decide) (fun c_5 => ?_) (fun c_5 => ?_)
  · have e_t := ix_no c_5
    refine lv_iconst (v := (-1)) hx hb dX4_taster_17 (by decide) ?_
    exact ro_iret hx hb hr hlocks hS dX4_taster_18 (by simp only [spTaster, e_t, Option.elim])
  · obtain ⟨t, h_t, rfl⟩ := hasB_N (by omega) c_5
    have e_t := ix_yes h_t (show n 5 < 2 ^ 31 by omega)
    refine lv_iload_n hx hb dX4_taster_8 rfl (lv_at hl 2 rfl) ?_
    refine lv_iconst (v := nI (0)) hx hb dX4_taster_9 (by decide) ?_
    refine lv_iconst (v := nI (4)) hx hb dX4_taster_10 (by decide) ?_
    refine ro_i (roS_run (As := [.int (a2), .int (nI 0), .int (nI 4)]) (rest := []) hx hb hml hown hts Tg_M (c_X4_isWithin l D G _ (a2) (nI (0)) (nI (4))) lk_RX4_55 ⟨rfl, rfl, Nat.le_of_ble_eq_true rfl, Nat.le_of_ble_eq_true rfl⟩ hP hK [] rfl rfl hl rfl (Nat.le_of_ble_eq_true rfl) dX4_taster_11 ⟨Nat.le_of_ble_eq_true rfl, Nat.le_of_ble_eq_true rfl⟩) hS hA (fun locs hS => ?_)
    refine b_if_ne (tgt := 19) hx hb dX4_taster_14 (by decide) (fun c_14 => ?_) (fun c_14 => ?_)
    · obtain ⟨w, g_w, h_w, rfl⟩ := inR_N (by decide) (by decide) c_14
      have e_w := ir_yes g_w h_w (by decide)
      refine lv_iload_n hx hb dX4_taster_19 rfl (lv_at hl 2 rfl) ?_
      refine lv_iconst (v := nI (4)) hx hb dX4_taster_20 (by decide) ?_
      refine n_icmp_ne (tgt := 38) hx hb dX4_taster_21 (by decide) (by omega) (by omega) (fun c_21 => ?_) (fun c_21 => ?_)
      · refine lv_aload_n hx hb dX4_taster_38 rfl (lv_at hl 0 rfl) ?_
        refine va_get (D := D) (ci := 3) (v := .ref (ad 12)) (C := RX4) (T := TX4) (N := 10) hx hb hts (iX4) hown hK hP 0 rfl rfl 2 (by decide) (hts _ (List.mem_cons_of_mem _ wt_158)) (fun _ h9 => h9) rfl dX4_taster_39 ?_
        refine lv_iload_n hx hb dX4_taster_42 rfl (lv_at hl 1 rfl) ?_
        refine ro_i (roV_run (As := [.int (nI t)]) (rest := []) hx hb hml hown hts Tg_M (c_X3_at l D G _ (ad 12) (ad 13) 6 (n 5) (f 5) t (by omega) (by omega) (by omega)) lk_RX4_102 ⟨rfl, rfl, Nat.le_of_ble_eq_true rfl, Nat.le_of_ble_eq_true rfl⟩ hP hK [1, 2] rfl 1 2 rfl rfl rfl rfl hl rfl (Nat.le_of_ble_eq_true rfl) dX4_taster_43 ⟨Nat.le_of_ble_eq_true rfl, Nat.le_of_ble_eq_true rfl⟩) hS hA (fun locs hS => ?_)
        refine lv_iload_n hx hb dX4_taster_46 rfl (lv_at hl 2 rfl) ?_
        refine ro_i (roS_run (As := [.int (nI ((f 5) t)), .int (nI w)]) (rest := []) hx hb hml hown hts Tg_M (c_X0_part l D G _ ((f 5) t) w (il _ h_t) (by omega)) lk_RX4_112 ⟨rfl, rfl, Nat.le_of_ble_eq_true rfl, Nat.le_of_ble_eq_true rfl⟩ hP hK [] rfl rfl hl rfl (Nat.le_of_ble_eq_true rfl) dX4_taster_47 ⟨Nat.le_of_ble_eq_true rfl, Nat.le_of_ble_eq_true rfl⟩) hS hA (fun locs hS => ?_)
        exact ro_iret hx hb hr hlocks hS dX4_taster_50 (by simp only [spTaster, e_t, e_w, Option.elim, if_neg c_21])
      · refine lv_aload_n hx hb dX4_taster_24 rfl (lv_at hl 0 rfl) ?_
        refine va_get (D := D) (ci := 3) (v := .ref (ad 16)) (C := RX4) (T := TX4) (N := 10) hx hb hts (iX4) hown hK hP 0 rfl rfl 4 (by decide) (hts _ (List.mem_cons_of_mem _ wt_160)) (fun _ h9 => h9) rfl dX4_taster_25 ?_
        refine va_get (D := D) (ci := 0) (v := .ref (ad 17)) (C := RX1) (T := TX1) (N := 3) hx hb hts (iX1) hown hK hP 3 rfl rfl 0 (by decide) (hts _ (List.mem_cons_of_mem _ wt_144)) (fun _ h9 => h9) rfl dX4_taster_28 ?_
        refine lv_iload_n hx hb dX4_taster_31 rfl (lv_at hl 1 rfl) ?_
        refine ro_i (roV_run (As := [.int (nI t)]) (rest := []) hx hb hml hown hts Tg_M (c_X3_at l D G _ (ad 17) (ad 18) 6 (n 7) (f 7) t (by omega) (by omega) (by omega)) lk_RX4_102 ⟨rfl, rfl, Nat.le_of_ble_eq_true rfl, Nat.le_of_ble_eq_true rfl⟩ hP hK [4, 5] rfl 4 2 rfl rfl rfl rfl hl rfl (Nat.le_of_ble_eq_true rfl) dX4_taster_32 ⟨Nat.le_of_ble_eq_true rfl, Nat.le_of_ble_eq_true rfl⟩) hS hA (fun locs hS => ?_)
        refine lv_goto (tgt := 50) hx hb dX4_taster_35 (by decide) ?_
        exact ro_iret hx hb hr hlocks hS dX4_taster_50 (by simp only [spTaster, e_t, e_w, Option.elim, if_pos c_21])
    · have e_w := ir_no c_14
      refine lv_iconst (v := (-1)) hx hb dX4_taster_17 (by decide) ?_
      exact ro_iret hx hb hr hlocks hS dX4_taster_18 (by simp only [spTaster, e_t, e_w, Option.elim])

set_option maxHeartbeats 4000000 in
set_option maxRecDepth 100000 in
theorem c_X4_cups (l : Launch) (D : va_G) (G : ClassId × ClassId × ClassId) (H0 : Heap) (ad n : Nat → Nat) (f : Nat → Nat → Nat) (k : Nat → Nat) (b : Nat → Bool) (tr : Int64) (q : Nat) (a a2 a3 : Int32) (hI : XI n f k q) : Met l yX4_cups (wM yX4_cups cX4_cups 4 (some .int)) (rmD 3) (rP D G [.ref (ad 0), .int (a), .int (a2), .int (a3)] [(ad 0, .inr (3, [.ref (ad 1), .ref (ad 10), .ref (ad 12), .ref (ad 14), .ref (ad 16), .ref (ad 21), .ref (ad 26), .int (bI (b 1)), .int (bI (b 2)), .long (tr)])), (ad 12, .inr (2, [.ref (ad 13), .int (nI (n 5))])), (ad 13, .inl (G.1, 6, .inl (nF (f 5)))), (ad 16, .inr (0, [.ref (ad 17), .ref (ad 19), .int (nI (k 5))]))] H0) (rQi (spCups n f k a a2 a3) H0) 0 0 (rF H0) := by
  refine ro_start (Qc := fun H0 => (rQi (spCups n f k a a2 a3) H0)) (by decide) (Nat.le_of_ble_eq_true rfl) ?_
  intro p e s m args below meth c hx hb hr hts hown hlocks hml hP hK hA hH0 ls hl locs hS
  have hl : lv_has ls 4 [(0, .ref (ad 0)), (1, .int (a)), (2, .int (a2)), (3, .int (a3))] := hl
  have hI0 := hI
  obtain ⟨i4, i5, i6, iq, iw, il, i7, i8, ih9, ik, iF⟩ := hI
  refine lv_aload_n hx hb dX4_cups_0 rfl (lv_at hl 0 rfl) ?_
  refine lv_iload_n hx hb dX4_cups_1 rfl (lv_at hl 1 rfl) ?_
  refine ro_i (roV_run (As := [.int (a)]) (rest := []) hx hb hml hown hts Tg_M (c_X4_isTaster l D G _ ad n f k b tr (a) ) lk_RX4_106 ⟨rfl, rfl, Nat.le_of_ble_eq_true rfl, Nat.le_of_ble_eq_true rfl⟩ hP hK [0, 1, 2] rfl 0 3 rfl rfl rfl rfl hl rfl (Nat.le_of_ble_eq_true rfl) dX4_cups_2 ⟨Nat.le_of_ble_eq_true rfl, Nat.le_of_ble_eq_true rfl⟩) hS hA (fun locs hS => ?_)
  refine b_if_eq (tgt := 25) hx hb dX4_cups_5 (by decide) (fun c_5 => ?_) (fun c_5 => ?_)
  · have e_t := ix_no c_5
    refine lv_iconst (v := (-1)) hx hb dX4_cups_25 (by decide) ?_
    exact ro_iret hx hb hr hlocks hS dX4_cups_26 (by simp only [spCups, e_t, Option.elim])
  · obtain ⟨t, h_t, rfl⟩ := hasB_N (by omega) c_5
    have e_t := ix_yes h_t (show n 5 < 2 ^ 31 by omega)
    refine lv_iload_n hx hb dX4_cups_8 rfl (lv_at hl 2 rfl) ?_
    refine ro_i (roS_run (As := [.int (a2)]) (rest := []) hx hb hml hown hts Tg_M (c_X4_isWeight l D G _ (a2)) lk_RX4_118 ⟨rfl, rfl, Nat.le_of_ble_eq_true rfl, Nat.le_of_ble_eq_true rfl⟩ hP hK [] rfl rfl hl rfl (Nat.le_of_ble_eq_true rfl) dX4_cups_9 ⟨Nat.le_of_ble_eq_true rfl, Nat.le_of_ble_eq_true rfl⟩) hS hA (fun locs hS => ?_)
    refine b_if_eq (tgt := 25) hx hb dX4_cups_12 (by decide) (fun c_12 => ?_) (fun c_12 => ?_)
    · have e_w := ir_no c_12
      refine lv_iconst (v := (-1)) hx hb dX4_cups_25 (by decide) ?_
      exact ro_iret hx hb hr hlocks hS dX4_cups_26 (by simp only [spCups, e_t, e_w, Option.elim])
    · obtain ⟨w, g_w, h_w, rfl⟩ := inR_N (by decide) (by decide) c_12
      have e_w := ir_yes g_w h_w (by decide)
      refine lv_iload_n hx hb dX4_cups_15 rfl (lv_at hl 3 rfl) ?_
      refine lv_iconst (v := nI (0)) hx hb dX4_cups_16 (by decide) ?_
      refine lv_bipush (v := nI (99)) hx hb dX4_cups_17 (by decide) ?_
      refine ro_i (roS_run (As := [.int (a3), .int (nI 0), .int (nI 99)]) (rest := []) hx hb hml hown hts Tg_M (c_X4_isWithin l D G _ (a3) (nI (0)) (nI (99))) lk_RX4_55 ⟨rfl, rfl, Nat.le_of_ble_eq_true rfl, Nat.le_of_ble_eq_true rfl⟩ hP hK [] rfl rfl hl rfl (Nat.le_of_ble_eq_true rfl) dX4_cups_19 ⟨Nat.le_of_ble_eq_true rfl, Nat.le_of_ble_eq_true rfl⟩) hS hA (fun locs hS => ?_)
      refine b_if_ne (tgt := 27) hx hb dX4_cups_22 (by decide) (fun c_22 => ?_) (fun c_22 => ?_)
      · obtain ⟨j, g_j, h_j, rfl⟩ := inR_N (by decide) (by decide) c_22
        have e_j := ir_yes g_j h_j (by decide)
        refine lv_aload_n hx hb dX4_cups_27 rfl (lv_at hl 0 rfl) ?_
        refine va_get (D := D) (ci := 3) (v := .ref (ad 12)) (C := RX4) (T := TX4) (N := 10) hx hb hts (iX4) hown hK hP 0 rfl rfl 2 (by decide) (hts _ (List.mem_cons_of_mem _ wt_158)) (fun _ h9 => h9) rfl dX4_cups_28 ?_
        refine lv_iload_n hx hb dX4_cups_31 rfl (lv_at hl 1 rfl) ?_
        refine ro_i (roV_run (As := [.int (nI t)]) (rest := []) hx hb hml hown hts Tg_M (c_X3_at l D G _ (ad 12) (ad 13) 6 (n 5) (f 5) t (by omega) (by omega) (by omega)) lk_RX4_102 ⟨rfl, rfl, Nat.le_of_ble_eq_true rfl, Nat.le_of_ble_eq_true rfl⟩ hP hK [1, 2] rfl 1 2 rfl rfl rfl rfl hl rfl (Nat.le_of_ble_eq_true rfl) dX4_cups_32 ⟨Nat.le_of_ble_eq_true rfl, Nat.le_of_ble_eq_true rfl⟩) hS hA (fun locs hS => ?_)
        refine lv_iload_n hx hb dX4_cups_35 rfl (lv_at hl 2 rfl) ?_
        refine lv_iload_n hx hb dX4_cups_36 rfl (lv_at hl 3 rfl) ?_
        refine lv_aload_n hx hb dX4_cups_37 rfl (lv_at hl 0 rfl) ?_
        refine va_get (D := D) (ci := 3) (v := .ref (ad 16)) (C := RX4) (T := TX4) (N := 10) hx hb hts (iX4) hown hK hP 0 rfl rfl 4 (by decide) (hts _ (List.mem_cons_of_mem _ wt_160)) (fun _ h9 => h9) rfl dX4_cups_38 ?_
        refine va_get (D := D) (ci := 0) (v := .int (nI (k 5))) (C := RX1) (T := TX1) (N := 3) hx hb hts (iX1) hown hK hP 3 rfl rfl 2 (by decide) (hts _ (List.mem_cons_of_mem _ wt_148)) (fun _ h9 => h9) rfl dX4_cups_41 ?_
        refine ro_i (roS_run (As := [.int (nI ((f 5) t)), .int (nI w), .int (nI j), .int (nI (k 5))]) (rest := []) hx hb hml hown hts Tg_M (c_X0_drinks l D G _ ((f 5) t) w j (k 5) (il _ h_t) (by omega) (by omega) (by omega)) lk_RX4_122 ⟨rfl, rfl, Nat.le_of_ble_eq_true rfl, Nat.le_of_ble_eq_true rfl⟩ hP hK [] rfl rfl hl rfl (Nat.le_of_ble_eq_true rfl) dX4_cups_44 ⟨Nat.le_of_ble_eq_true rfl, Nat.le_of_ble_eq_true rfl⟩) hS hA (fun locs hS => ?_)
        exact ro_iret hx hb hr hlocks hS dX4_cups_47 (by simp only [spCups, e_t, e_w, e_j, Option.elim])
      · have e_j := ir_no c_22
        refine lv_iconst (v := (-1)) hx hb dX4_cups_25 (by decide) ?_
        exact ro_iret hx hb hr hlocks hS dX4_cups_26 (by simp only [spCups, e_t, e_w, e_j, Option.elim])

set_option maxHeartbeats 4000000 in
set_option maxRecDepth 100000 in
theorem c_X4_known (l : Launch) (D : va_G) (G : ClassId × ClassId × ClassId) (H0 : Heap) (ad n : Nat → Nat) (f : Nat → Nat → Nat) (k : Nat → Nat) (b : Nat → Bool) (tr : Int64) (q : Nat) (a a2 : Int32) (hI : XI n f k q) : Met l yX4_known (wM yX4_known cX4_known 3 (some .int)) (rmD 3) (rP D G [.ref (ad 0), .int (a), .int (a2)] [(ad 0, .inr (3, [.ref (ad 1), .ref (ad 10), .ref (ad 12), .ref (ad 14), .ref (ad 16), .ref (ad 21), .ref (ad 26), .int (bI (b 1)), .int (bI (b 2)), .long (tr)])), (ad 16, .inr (0, [.ref (ad 17), .ref (ad 19), .int (nI (k 5))])), (ad 19, .inr (2, [.ref (ad 20), .int (nI (6 * n 8))])), (ad 20, .inl (G.1, 72, .inl (nF (f 8))))] H0) (rQi (spKnown n f a a2) H0) 0 0 (rF H0) := by
  refine ro_start (Qc := fun H0 => (rQi (spKnown n f a a2) H0)) (by decide) (Nat.le_of_ble_eq_true rfl) ?_
  intro p e s m args below meth c hx hb hr hts hown hlocks hml hP hK hA hH0 ls hl locs hS
  have hl : lv_has ls 3 [(0, .ref (ad 0)), (1, .int (a)), (2, .int (a2))] := hl
  have hI0 := hI
  obtain ⟨i4, i5, i6, iq, iw, il, i7, i8, ih9, ik, iF⟩ := hI
  refine lv_iload_n hx hb dX4_known_0 rfl (lv_at hl 1 rfl) ?_
  refine lv_iconst (v := nI (0)) hx hb dX4_known_1 (by decide) ?_
  refine lv_aload_n hx hb dX4_known_2 rfl (lv_at hl 0 rfl) ?_
  refine ro_i (roV_run (As := []) (rest := [.int (nI 0), .int (a)]) hx hb hml hown hts Tg_M (c_X4_facts l D G _ ad n f k b tr  (by omega)) lk_RX4_126 ⟨rfl, rfl, Nat.le_of_ble_eq_true rfl, Nat.le_of_ble_eq_true rfl⟩ hP hK [0, 1, 2, 3] rfl 0 3 rfl rfl rfl rfl hl rfl (Nat.le_of_ble_eq_true rfl) dX4_known_3 ⟨Nat.le_of_ble_eq_true rfl, Nat.le_of_ble_eq_true rfl⟩) hS hA (fun locs hS => ?_)
  refine lv_iconst (v := nI (1)) hx hb dX4_known_6 (by decide) ?_
  refine lv_isub hx hb dX4_known_7 ?_
  refine ro_i (roS_run (As := [.int (a), .int (nI 0), .int (nI (n 8) - nI (1))]) (rest := []) hx hb hml hown hts Tg_M (c_X4_isWithin l D G _ (a) (nI (0)) (nI (n 8) - nI (1))) lk_RX4_55 ⟨rfl, rfl, Nat.le_of_ble_eq_true rfl, Nat.le_of_ble_eq_true rfl⟩ hP hK [] rfl rfl hl rfl (Nat.le_of_ble_eq_true rfl) dX4_known_8 ⟨Nat.le_of_ble_eq_true rfl, Nat.le_of_ble_eq_true rfl⟩) hS hA (fun locs hS => ?_)
  refine n_tope (show bI (inR (a) (nI (0)) (nI (n 8) - nI (1))) = bI (hasB a (n 8)) from by rw [inR_has (by omega)]) ?_
  refine b_if_eq (tgt := 23) hx hb dX4_known_11 (by decide) (fun c_11 => ?_) (fun c_11 => ?_)
  · have e_i := ix_no c_11
    refine lv_iconst (v := (-1)) hx hb dX4_known_23 (by decide) ?_
    exact ro_iret hx hb hr hlocks hS dX4_known_24 (by simp only [spKnown, e_i, Option.elim])
  · obtain ⟨i, h_i, rfl⟩ := hasB_N (by omega) c_11
    have e_i := ix_yes h_i (show n 8 < 2 ^ 31 by omega)
    refine lv_iload_n hx hb dX4_known_14 rfl (lv_at hl 2 rfl) ?_
    refine lv_iconst (v := nI (0)) hx hb dX4_known_15 (by decide) ?_
    refine lv_iconst (v := nI (5)) hx hb dX4_known_16 (by decide) ?_
    refine ro_i (roS_run (As := [.int (a2), .int (nI 0), .int (nI 5)]) (rest := []) hx hb hml hown hts Tg_M (c_X4_isWithin l D G _ (a2) (nI (0)) (nI (5))) lk_RX4_55 ⟨rfl, rfl, Nat.le_of_ble_eq_true rfl, Nat.le_of_ble_eq_true rfl⟩ hP hK [] rfl rfl hl rfl (Nat.le_of_ble_eq_true rfl) dX4_known_17 ⟨Nat.le_of_ble_eq_true rfl, Nat.le_of_ble_eq_true rfl⟩) hS hA (fun locs hS => ?_)
    refine b_if_ne (tgt := 25) hx hb dX4_known_20 (by decide) (fun c_20 => ?_) (fun c_20 => ?_)
    · obtain ⟨w, g_w, h_w, rfl⟩ := inR_N (by decide) (by decide) c_20
      have e_w := ir_yes g_w h_w (by decide)
      refine lv_aload_n hx hb dX4_known_25 rfl (lv_at hl 0 rfl) ?_
      refine lv_iload_n hx hb dX4_known_26 rfl (lv_at hl 1 rfl) ?_
      refine lv_iload_n hx hb dX4_known_27 rfl (lv_at hl 2 rfl) ?_
      refine ro_i (roV_run (As := [.int (nI i), .int (nI w)]) (rest := []) hx hb hml hown hts Tg_M (c_X4_fact l D G _ ad n f k b tr i w (by omega) (by omega) (by omega)) lk_RX4_147 ⟨rfl, rfl, Nat.le_of_ble_eq_true rfl, Nat.le_of_ble_eq_true rfl⟩ hP hK [0, 1, 2, 3] rfl 0 3 rfl rfl rfl rfl hl rfl (Nat.le_of_ble_eq_true rfl) dX4_known_28 ⟨Nat.le_of_ble_eq_true rfl, Nat.le_of_ble_eq_true rfl⟩) hS hA (fun locs hS => ?_)
      exact ro_iret hx hb hr hlocks hS dX4_known_31 (by simp only [spKnown, e_i, e_w, Option.elim])
    · have e_w := ir_no c_20
      refine lv_iconst (v := (-1)) hx hb dX4_known_23 (by decide) ?_
      exact ro_iret hx hb hr hlocks hS dX4_known_24 (by simp only [spKnown, e_i, e_w, Option.elim])

set_option maxHeartbeats 4000000 in
set_option maxRecDepth 100000 in
theorem c_X4_canBe (l : Launch) (D : va_G) (G : ClassId × ClassId × ClassId) (H0 : Heap) (ad n : Nat → Nat) (f : Nat → Nat → Nat) (k : Nat → Nat) (b : Nat → Bool) (tr : Int64) (q : Nat) (a a2 : Int32) (hI : XI n f k q) : Met l yX4_canBe (wM yX4_canBe cX4_canBe 3 (some .int)) (rmD 6) (rP D G [.ref (ad 0), .int (a), .int (a2)] [(ad 0, .inr (3, [.ref (ad 1), .ref (ad 10), .ref (ad 12), .ref (ad 14), .ref (ad 16), .ref (ad 21), .ref (ad 26), .int (bI (b 1)), .int (bI (b 2)), .long (tr)])), (ad 10, .inr (2, [.ref (ad 11), .int (nI (n 4))])), (ad 11, .inl (G.1, 5, .inl (nF (f 4)))), (ad 12, .inr (2, [.ref (ad 13), .int (nI (n 5))])), (ad 13, .inl (G.1, 6, .inl (nF (f 5)))), (ad 16, .inr (0, [.ref (ad 17), .ref (ad 19), .int (nI (k 5))])), (ad 19, .inr (2, [.ref (ad 20), .int (nI (6 * n 8))])), (ad 20, .inl (G.1, 72, .inl (nF (f 8))))] H0) (rQi (spCanBe n f a a2) H0) 0 0 (rF H0) := by
  refine ro_start (Qc := fun H0 => (rQi (spCanBe n f a a2) H0)) (by decide) (Nat.le_of_ble_eq_true rfl) ?_
  intro p e s m args below meth c hx hb hr hts hown hlocks hml hP hK hA hH0 ls hl locs hS
  have hl : lv_has ls 3 [(0, .ref (ad 0)), (1, .int (a)), (2, .int (a2))] := hl
  have hI0 := hI
  obtain ⟨i4, i5, i6, iq, iw, il, i7, i8, ih9, ik, iF⟩ := hI
  refine lv_aload_n hx hb dX4_canBe_0 rfl (lv_at hl 0 rfl) ?_
  refine lv_iload_n hx hb dX4_canBe_1 rfl (lv_at hl 1 rfl) ?_
  refine ro_i (roV_run (As := [.int (a)]) (rest := []) hx hb hml hown hts Tg_M (c_X4_isLoad l D G _ ad n f k b tr (a) ) lk_RX4_98 ⟨rfl, rfl, Nat.le_of_ble_eq_true rfl, Nat.le_of_ble_eq_true rfl⟩ hP hK [0, 1, 2] rfl 0 3 rfl rfl rfl rfl hl rfl (Nat.le_of_ble_eq_true rfl) dX4_canBe_2 ⟨Nat.le_of_ble_eq_true rfl, Nat.le_of_ble_eq_true rfl⟩) hS hA (fun locs hS => ?_)
  refine b_if_eq (tgt := 17) hx hb dX4_canBe_5 (by decide) (fun c_5 => ?_) (fun c_5 => ?_)
  · have e_j := ix_no c_5
    refine lv_iconst (v := (-1)) hx hb dX4_canBe_17 (by decide) ?_
    exact ro_iret hx hb hr hlocks hS dX4_canBe_18 (by simp only [spCanBe, e_j, Option.elim])
  · obtain ⟨j, h_j, rfl⟩ := hasB_N (by omega) c_5
    have e_j := ix_yes h_j (show n 4 < 2 ^ 31 by omega)
    refine lv_iload_n hx hb dX4_canBe_8 rfl (lv_at hl 2 rfl) ?_
    refine lv_iconst (v := nI (0)) hx hb dX4_canBe_9 (by decide) ?_
    refine lv_iconst (v := nI (2)) hx hb dX4_canBe_10 (by decide) ?_
    refine ro_i (roS_run (As := [.int (a2), .int (nI 0), .int (nI 2)]) (rest := []) hx hb hml hown hts Tg_M (c_X4_isWithin l D G _ (a2) (nI (0)) (nI (2))) lk_RX4_55 ⟨rfl, rfl, Nat.le_of_ble_eq_true rfl, Nat.le_of_ble_eq_true rfl⟩ hP hK [] rfl rfl hl rfl (Nat.le_of_ble_eq_true rfl) dX4_canBe_11 ⟨Nat.le_of_ble_eq_true rfl, Nat.le_of_ble_eq_true rfl⟩) hS hA (fun locs hS => ?_)
    refine b_if_ne (tgt := 19) hx hb dX4_canBe_14 (by decide) (fun c_14 => ?_) (fun c_14 => ?_)
    · obtain ⟨w, g_w, h_w, rfl⟩ := inR_N (by decide) (by decide) c_14
      have e_w := ir_yes g_w h_w (by decide)
      have z_j := lo_hi hI0 h_j
      have y_j := hiP_le (canW f (n 8) j)
      have x_j := loP_le (canW f (n 8) j)
      refine lv_iload_n hx hb dX4_canBe_19 rfl (lv_at hl 2 rfl) ?_
      refine n_if_ne (tgt := 37) hx hb dX4_canBe_20 (by decide) (by omega) (fun c_20 => ?_) (fun c_20 => ?_)
      · refine lv_iload_n hx hb dX4_canBe_37 rfl (lv_at hl 2 rfl) ?_
        refine lv_iconst (v := nI (1)) hx hb dX4_canBe_38 (by decide) ?_
        refine n_icmp_ne (tgt := 50) hx hb dX4_canBe_39 (by decide) (by omega) (by omega) (fun c_39 => ?_) (fun c_39 => ?_)
        · refine lv_aload_n hx hb dX4_canBe_50 rfl (lv_at hl 0 rfl) ?_
          refine lv_iload_n hx hb dX4_canBe_51 rfl (lv_at hl 1 rfl) ?_
          refine ro_i (roV_run (As := [.int (nI j)]) (rest := []) hx hb hml hown hts Tg_M (c_X4_greatestOf l D G _ ad n f k b tr q j hI0 (by omega)) lk_RX4_155 ⟨rfl, rfl, Nat.le_of_ble_eq_true rfl, Nat.le_of_ble_eq_true rfl⟩ hP hK [0, 3, 4, 5, 6, 7] rfl 0 3 rfl rfl rfl rfl hl rfl (Nat.le_of_ble_eq_true rfl) dX4_canBe_52 ⟨Nat.le_of_ble_eq_true rfl, Nat.le_of_ble_eq_true rfl⟩) hS hA (fun locs hS => ?_)
          exact ro_iret hx hb hr hlocks hS dX4_canBe_55 (by simp only [spCanBe, e_j, e_w, Option.elim, if_neg c_20, if_neg c_39])
        · refine lv_aload_n hx hb dX4_canBe_42 rfl (lv_at hl 0 rfl) ?_
          refine lv_iload_n hx hb dX4_canBe_43 rfl (lv_at hl 1 rfl) ?_
          refine ro_i (roV_run (As := [.int (nI j)]) (rest := []) hx hb hml hown hts Tg_M (c_X4_leastOf l D G _ ad n f k b tr q j hI0 (by omega)) lk_RX4_158 ⟨rfl, rfl, Nat.le_of_ble_eq_true rfl, Nat.le_of_ble_eq_true rfl⟩ hP hK [0, 3, 4, 5, 6, 7] rfl 0 3 rfl rfl rfl rfl hl rfl (Nat.le_of_ble_eq_true rfl) dX4_canBe_44 ⟨Nat.le_of_ble_eq_true rfl, Nat.le_of_ble_eq_true rfl⟩) hS hA (fun locs hS => ?_)
          refine lv_goto (tgt := 55) hx hb dX4_canBe_47 (by decide) ?_
          exact ro_iret hx hb hr hlocks hS dX4_canBe_55 (by simp only [spCanBe, e_j, e_w, Option.elim, if_neg c_20, if_pos c_39])
      · refine lv_aload_n hx hb dX4_canBe_23 rfl (lv_at hl 0 rfl) ?_
        refine lv_iload_n hx hb dX4_canBe_24 rfl (lv_at hl 1 rfl) ?_
        refine ro_i (roV_run (As := [.int (nI j)]) (rest := []) hx hb hml hown hts Tg_M (c_X4_greatestOf l D G _ ad n f k b tr q j hI0 (by omega)) lk_RX4_155 ⟨rfl, rfl, Nat.le_of_ble_eq_true rfl, Nat.le_of_ble_eq_true rfl⟩ hP hK [0, 3, 4, 5, 6, 7] rfl 0 3 rfl rfl rfl rfl hl rfl (Nat.le_of_ble_eq_true rfl) dX4_canBe_25 ⟨Nat.le_of_ble_eq_true rfl, Nat.le_of_ble_eq_true rfl⟩) hS hA (fun locs hS => ?_)
        refine lv_aload_n hx hb dX4_canBe_28 rfl (lv_at hl 0 rfl) ?_
        refine lv_iload_n hx hb dX4_canBe_29 rfl (lv_at hl 1 rfl) ?_
        refine ro_i (roV_run (As := [.int (nI j)]) (rest := [.int (nI (hiP (canW f (n 8) j)))]) hx hb hml hown hts Tg_M (c_X4_leastOf l D G _ ad n f k b tr q j hI0 (by omega)) lk_RX4_158 ⟨rfl, rfl, Nat.le_of_ble_eq_true rfl, Nat.le_of_ble_eq_true rfl⟩ hP hK [0, 3, 4, 5, 6, 7] rfl 0 3 rfl rfl rfl rfl hl rfl (Nat.le_of_ble_eq_true rfl) dX4_canBe_30 ⟨Nat.le_of_ble_eq_true rfl, Nat.le_of_ble_eq_true rfl⟩) hS hA (fun locs hS => ?_)
        refine n_isub hx hb dX4_canBe_33 (by omega) ?_
        refine lv_iconst (v := nI (1)) hx hb dX4_canBe_34 (by decide) ?_
        refine n_iadd hx hb dX4_canBe_35 ?_
        exact ro_iret hx hb hr hlocks hS dX4_canBe_36 (by simp only [spCanBe, e_j, e_w, Option.elim, if_pos c_20])
    · have e_w := ir_no c_14
      refine lv_iconst (v := (-1)) hx hb dX4_canBe_17 (by decide) ?_
      exact ro_iret hx hb hr hlocks hS dX4_canBe_18 (by simp only [spCanBe, e_j, e_w, Option.elim])

set_option maxHeartbeats 4000000 in
set_option maxRecDepth 100000 in
theorem c_X4_heavier (l : Launch) (D : va_G) (G : ClassId × ClassId × ClassId) (H0 : Heap) (ad n : Nat → Nat) (f : Nat → Nat → Nat) (k : Nat → Nat) (b : Nat → Bool) (tr : Int64) (q : Nat) (a a2 : Int32) (hI : XI n f k q) : Met l yX4_heavier (wM yX4_heavier cX4_heavier 3 (some .int)) (rmD 6) (rP D G [.ref (ad 0), .int (a), .int (a2)] [(ad 0, .inr (3, [.ref (ad 1), .ref (ad 10), .ref (ad 12), .ref (ad 14), .ref (ad 16), .ref (ad 21), .ref (ad 26), .int (bI (b 1)), .int (bI (b 2)), .long (tr)])), (ad 10, .inr (2, [.ref (ad 11), .int (nI (n 4))])), (ad 11, .inl (G.1, 5, .inl (nF (f 4)))), (ad 12, .inr (2, [.ref (ad 13), .int (nI (n 5))])), (ad 13, .inl (G.1, 6, .inl (nF (f 5)))), (ad 16, .inr (0, [.ref (ad 17), .ref (ad 19), .int (nI (k 5))])), (ad 19, .inr (2, [.ref (ad 20), .int (nI (6 * n 8))])), (ad 20, .inl (G.1, 72, .inl (nF (f 8))))] H0) (rQi (spHeav n f a a2) H0) 0 0 (rF H0) := by
  refine ro_start (Qc := fun H0 => (rQi (spHeav n f a a2) H0)) (by decide) (Nat.le_of_ble_eq_true rfl) ?_
  intro p e s m args below meth c hx hb hr hts hown hlocks hml hP hK hA hH0 ls hl locs hS
  have hl : lv_has ls 3 [(0, .ref (ad 0)), (1, .int (a)), (2, .int (a2))] := hl
  have hI0 := hI
  obtain ⟨i4, i5, i6, iq, iw, il, i7, i8, ih9, ik, iF⟩ := hI
  refine lv_aload_n hx hb dX4_heavier_0 rfl (lv_at hl 0 rfl) ?_
  refine lv_iload_n hx hb dX4_heavier_1 rfl (lv_at hl 1 rfl) ?_
  refine ro_i (roV_run (As := [.int (a)]) (rest := []) hx hb hml hown hts Tg_M (c_X4_isLoad l D G _ ad n f k b tr (a) ) lk_RX4_98 ⟨rfl, rfl, Nat.le_of_ble_eq_true rfl, Nat.le_of_ble_eq_true rfl⟩ hP hK [0, 1, 2] rfl 0 3 rfl rfl rfl rfl hl rfl (Nat.le_of_ble_eq_true rfl) dX4_heavier_2 ⟨Nat.le_of_ble_eq_true rfl, Nat.le_of_ble_eq_true rfl⟩) hS hA (fun locs hS => ?_)
  refine b_if_eq (tgt := 21) hx hb dX4_heavier_5 (by decide) (fun c_5 => ?_) (fun c_5 => ?_)
  · have e_j := ix_no c_5
    refine lv_iconst (v := (-1)) hx hb dX4_heavier_21 (by decide) ?_
    exact ro_iret hx hb hr hlocks hS dX4_heavier_22 (by simp only [spHeav, e_j, Option.elim])
  · obtain ⟨j, h_j, rfl⟩ := hasB_N (by omega) c_5
    have e_j := ix_yes h_j (show n 4 < 2 ^ 31 by omega)
    refine lv_aload_n hx hb dX4_heavier_8 rfl (lv_at hl 0 rfl) ?_
    refine lv_iload_n hx hb dX4_heavier_9 rfl (lv_at hl 2 rfl) ?_
    refine ro_i (roV_run (As := [.int (a2)]) (rest := []) hx hb hml hown hts Tg_M (c_X4_isLoad l D G _ ad n f k b tr (a2) ) lk_RX4_98 ⟨rfl, rfl, Nat.le_of_ble_eq_true rfl, Nat.le_of_ble_eq_true rfl⟩ hP hK [0, 1, 2] rfl 0 3 rfl rfl rfl rfl hl rfl (Nat.le_of_ble_eq_true rfl) dX4_heavier_10 ⟨Nat.le_of_ble_eq_true rfl, Nat.le_of_ble_eq_true rfl⟩) hS hA (fun locs hS => ?_)
    refine b_if_eq (tgt := 21) hx hb dX4_heavier_13 (by decide) (fun c_13 => ?_) (fun c_13 => ?_)
    · have e_i := ix_no c_13
      refine lv_iconst (v := (-1)) hx hb dX4_heavier_21 (by decide) ?_
      exact ro_iret hx hb hr hlocks hS dX4_heavier_22 (by simp only [spHeav, e_j, e_i, Option.elim])
    · obtain ⟨i, h_i, rfl⟩ := hasB_N (by omega) c_13
      have e_i := ix_yes h_i (show n 4 < 2 ^ 31 by omega)
      refine lv_iload_n hx hb dX4_heavier_16 rfl (lv_at hl 1 rfl) ?_
      refine lv_iload_n hx hb dX4_heavier_17 rfl (lv_at hl 2 rfl) ?_
      refine n_icmp_ne (tgt := 23) hx hb dX4_heavier_18 (by decide) (by omega) (by omega) (fun c_18 => ?_) (fun c_18 => ?_)
      · have z_j := lo_hi hI0 h_j
        have y_j := hiP_le (canW f (n 8) j)
        have x_j := loP_le (canW f (n 8) j)
        have z_i := lo_hi hI0 h_i
        have y_i := hiP_le (canW f (n 8) i)
        have x_i := loP_le (canW f (n 8) i)
        refine lv_aload_n hx hb dX4_heavier_23 rfl (lv_at hl 0 rfl) ?_
        refine lv_iload_n hx hb dX4_heavier_24 rfl (lv_at hl 1 rfl) ?_
        refine ro_i (roV_run (As := [.int (nI j)]) (rest := []) hx hb hml hown hts Tg_M (c_X4_leastOf l D G _ ad n f k b tr q j hI0 (by omega)) lk_RX4_158 ⟨rfl, rfl, Nat.le_of_ble_eq_true rfl, Nat.le_of_ble_eq_true rfl⟩ hP hK [0, 3, 4, 5, 6, 7] rfl 0 3 rfl rfl rfl rfl hl rfl (Nat.le_of_ble_eq_true rfl) dX4_heavier_25 ⟨Nat.le_of_ble_eq_true rfl, Nat.le_of_ble_eq_true rfl⟩) hS hA (fun locs hS => ?_)
        refine lv_aload_n hx hb dX4_heavier_28 rfl (lv_at hl 0 rfl) ?_
        refine lv_iload_n hx hb dX4_heavier_29 rfl (lv_at hl 2 rfl) ?_
        refine ro_i (roV_run (As := [.int (nI i)]) (rest := [.int (nI (loP (canW f (n 8) j)))]) hx hb hml hown hts Tg_M (c_X4_greatestOf l D G _ ad n f k b tr q i hI0 (by omega)) lk_RX4_155 ⟨rfl, rfl, Nat.le_of_ble_eq_true rfl, Nat.le_of_ble_eq_true rfl⟩ hP hK [0, 3, 4, 5, 6, 7] rfl 0 3 rfl rfl rfl rfl hl rfl (Nat.le_of_ble_eq_true rfl) dX4_heavier_30 ⟨Nat.le_of_ble_eq_true rfl, Nat.le_of_ble_eq_true rfl⟩) hS hA (fun locs hS => ?_)
        refine n_icmp_le (tgt := 38) hx hb dX4_heavier_33 (by decide) (by omega) (by omega) (fun c_33 => ?_) (fun c_33 => ?_)
        · refine lv_aload_n hx hb dX4_heavier_38 rfl (lv_at hl 0 rfl) ?_
          refine lv_iload_n hx hb dX4_heavier_39 rfl (lv_at hl 1 rfl) ?_
          refine ro_i (roV_run (As := [.int (nI j)]) (rest := []) hx hb hml hown hts Tg_M (c_X4_greatestOf l D G _ ad n f k b tr q j hI0 (by omega)) lk_RX4_155 ⟨rfl, rfl, Nat.le_of_ble_eq_true rfl, Nat.le_of_ble_eq_true rfl⟩ hP hK [0, 3, 4, 5, 6, 7] rfl 0 3 rfl rfl rfl rfl hl rfl (Nat.le_of_ble_eq_true rfl) dX4_heavier_40 ⟨Nat.le_of_ble_eq_true rfl, Nat.le_of_ble_eq_true rfl⟩) hS hA (fun locs hS => ?_)
          refine lv_aload_n hx hb dX4_heavier_43 rfl (lv_at hl 0 rfl) ?_
          refine lv_iload_n hx hb dX4_heavier_44 rfl (lv_at hl 2 rfl) ?_
          refine ro_i (roV_run (As := [.int (nI i)]) (rest := [.int (nI (hiP (canW f (n 8) j)))]) hx hb hml hown hts Tg_M (c_X4_leastOf l D G _ ad n f k b tr q i hI0 (by omega)) lk_RX4_158 ⟨rfl, rfl, Nat.le_of_ble_eq_true rfl, Nat.le_of_ble_eq_true rfl⟩ hP hK [0, 3, 4, 5, 6, 7] rfl 0 3 rfl rfl rfl rfl hl rfl (Nat.le_of_ble_eq_true rfl) dX4_heavier_45 ⟨Nat.le_of_ble_eq_true rfl, Nat.le_of_ble_eq_true rfl⟩) hS hA (fun locs hS => ?_)
          refine n_icmp_ge (tgt := 56) hx hb dX4_heavier_48 (by decide) (by omega) (by omega) (fun c_48 => ?_) (fun c_48 => ?_)
          · refine lv_iconst (v := nI (0)) hx hb dX4_heavier_56 (by decide) ?_
            exact ro_iret hx hb hr hlocks hS dX4_heavier_57 (by simp only [spHeav, e_j, e_i, Option.elim, if_neg c_18, if_neg (Nat.not_lt.mpr c_33), if_neg (Nat.not_lt.mpr c_48)]; rfl)
          · refine lv_bipush (v := (-2)) hx hb dX4_heavier_51 (by decide) ?_
            refine lv_goto (tgt := 57) hx hb dX4_heavier_53 (by decide) ?_
            exact ro_iret hx hb hr hlocks hS dX4_heavier_57 (by simp only [spHeav, e_j, e_i, Option.elim, if_neg c_18, if_neg (Nat.not_lt.mpr c_33), if_pos c_48])
        · refine lv_iconst (v := nI (1)) hx hb dX4_heavier_36 (by decide) ?_
          exact ro_iret hx hb hr hlocks hS dX4_heavier_37 (by simp only [spHeav, e_j, e_i, Option.elim, if_neg c_18, if_pos c_33]; rfl)
      · refine lv_iconst (v := (-1)) hx hb dX4_heavier_21 (by decide) ?_
        exact ro_iret hx hb hr hlocks hS dX4_heavier_22 (by simp only [spHeav, e_j, e_i, Option.elim, if_pos c_18])

set_option maxHeartbeats 4000000 in
set_option maxRecDepth 100000 in
theorem c_X4_next (l : Launch) (D : va_G) (G : ClassId × ClassId × ClassId) (H0 : Heap) (ad n : Nat → Nat) (f : Nat → Nat → Nat) (k : Nat → Nat) (b : Nat → Bool) (tr : Int64) (q : Nat) (a a2 : Int32) (hI : XI n f k q) : Met l yX4_next (wM yX4_next cX4_next 9 (some .int)) (rmD 6) (rP D G [.ref (ad 0), .int (a), .int (a2)] [(ad 0, .inr (3, [.ref (ad 1), .ref (ad 10), .ref (ad 12), .ref (ad 14), .ref (ad 16), .ref (ad 21), .ref (ad 26), .int (bI (b 1)), .int (bI (b 2)), .long (tr)])), (ad 10, .inr (2, [.ref (ad 11), .int (nI (n 4))])), (ad 11, .inl (G.1, 5, .inl (nF (f 4)))), (ad 12, .inr (2, [.ref (ad 13), .int (nI (n 5))])), (ad 13, .inl (G.1, 6, .inl (nF (f 5)))), (ad 16, .inr (0, [.ref (ad 17), .ref (ad 19), .int (nI (k 5))])), (ad 17, .inr (2, [.ref (ad 18), .int (nI (n 7))])), (ad 18, .inl (G.1, 6, .inl (nF (f 7)))), (ad 19, .inr (2, [.ref (ad 20), .int (nI (6 * n 8))])), (ad 20, .inl (G.1, 72, .inl (nF (f 8))))] H0) (rQi (spNext n f k a a2) H0) 0 0 (rF H0) := by
  refine ro_start (Qc := fun H0 => (rQi (spNext n f k a a2) H0)) (by decide) (Nat.le_of_ble_eq_true rfl) ?_
  intro p e s m args below meth c hx hb hr hts hown hlocks hml hP hK hA hH0 ls hl locs hS
  have hl : lv_has ls 9 [(0, .ref (ad 0)), (1, .int (a)), (2, .int (a2))] := hl
  have hI0 := hI
  obtain ⟨i4, i5, i6, iq, iw, il, i7, i8, ih9, ik, iF⟩ := hI
  refine lv_aload_n hx hb dX4_next_0 rfl (lv_at hl 0 rfl) ?_
  refine lv_iload_n hx hb dX4_next_1 rfl (lv_at hl 1 rfl) ?_
  refine ro_i (roV_run (As := [.int (a)]) (rest := []) hx hb hml hown hts Tg_M (c_X4_isLoad l D G _ ad n f k b tr (a) ) lk_RX4_98 ⟨rfl, rfl, Nat.le_of_ble_eq_true rfl, Nat.le_of_ble_eq_true rfl⟩ hP hK [0, 1, 2] rfl 0 3 rfl rfl rfl rfl hl rfl (Nat.le_of_ble_eq_true rfl) dX4_next_2 ⟨Nat.le_of_ble_eq_true rfl, Nat.le_of_ble_eq_true rfl⟩) hS hA (fun locs hS => ?_)
  refine b_if_eq (tgt := 17) hx hb dX4_next_5 (by decide) (fun c_5 => ?_) (fun c_5 => ?_)
  · have e_j := ix_no c_5
    refine lv_iconst (v := (-1)) hx hb dX4_next_17 (by decide) ?_
    exact ro_iret hx hb hr hlocks hS dX4_next_18 (by simp only [spNext, e_j, Option.elim])
  · obtain ⟨j, h_j, rfl⟩ := hasB_N (by omega) c_5
    have e_j := ix_yes h_j (show n 4 < 2 ^ 31 by omega)
    refine lv_iload_n hx hb dX4_next_8 rfl (lv_at hl 2 rfl) ?_
    refine lv_iconst (v := nI (0)) hx hb dX4_next_9 (by decide) ?_
    refine lv_iconst (v := nI (1)) hx hb dX4_next_10 (by decide) ?_
    refine ro_i (roS_run (As := [.int (a2), .int (nI 0), .int (nI 1)]) (rest := []) hx hb hml hown hts Tg_M (c_X4_isWithin l D G _ (a2) (nI (0)) (nI (1))) lk_RX4_55 ⟨rfl, rfl, Nat.le_of_ble_eq_true rfl, Nat.le_of_ble_eq_true rfl⟩ hP hK [] rfl rfl hl rfl (Nat.le_of_ble_eq_true rfl) dX4_next_11 ⟨Nat.le_of_ble_eq_true rfl, Nat.le_of_ble_eq_true rfl⟩) hS hA (fun locs hS => ?_)
    refine b_if_ne (tgt := 19) hx hb dX4_next_14 (by decide) (fun c_14 => ?_) (fun c_14 => ?_)
    · obtain ⟨w, g_w, h_w, rfl⟩ := inR_N (by decide) (by decide) c_14
      have e_w := ir_yes g_w h_w (by decide)
      have z_j := lo_hi hI0 h_j
      have y_j := hiP_le (canW f (n 8) j)
      have x_j := loP_le (canW f (n 8) j)
      refine lv_aload_n hx hb dX4_next_19 rfl (lv_at hl 0 rfl) ?_
      refine lv_iload_n hx hb dX4_next_20 rfl (lv_at hl 1 rfl) ?_
      refine ro_i (roV_run (As := [.int (nI j)]) (rest := []) hx hb hml hown hts Tg_M (c_X4_leastOf l D G _ ad n f k b tr q j hI0 (by omega)) lk_RX4_158 ⟨rfl, rfl, Nat.le_of_ble_eq_true rfl, Nat.le_of_ble_eq_true rfl⟩ hP hK [0, 3, 4, 5, 8, 9] rfl 0 3 rfl rfl rfl rfl hl rfl (Nat.le_of_ble_eq_true rfl) dX4_next_21 ⟨Nat.le_of_ble_eq_true rfl, Nat.le_of_ble_eq_true rfl⟩) hS hA (fun locs hS => ?_)
      refine lv_istore_n (lv' := [(3, .int (nI (loP (canW f (n 8) j)))), (0, .ref (ad 0)), (1, .int (nI j)), (2, .int (nI w))]) hx hb dX4_next_24 rfl hl (by decide) rfl (fun ls hl => ?_)
      refine lv_aload_n hx hb dX4_next_25 rfl (lv_at hl 1 rfl) ?_
      refine lv_iload_n hx hb dX4_next_26 rfl (lv_at hl 2 rfl) ?_
      refine ro_i (roV_run (As := [.int (nI j)]) (rest := []) hx hb hml hown hts Tg_M (c_X4_greatestOf l D G _ ad n f k b tr q j hI0 (by omega)) lk_RX4_155 ⟨rfl, rfl, Nat.le_of_ble_eq_true rfl, Nat.le_of_ble_eq_true rfl⟩ hP hK [0, 3, 4, 5, 8, 9] rfl 0 3 rfl rfl rfl rfl hl rfl (Nat.le_of_ble_eq_true rfl) dX4_next_27 ⟨Nat.le_of_ble_eq_true rfl, Nat.le_of_ble_eq_true rfl⟩) hS hA (fun locs hS => ?_)
      refine lv_istore (lv' := [(4, .int (nI (hiP (canW f (n 8) j)))), (3, .int (nI (loP (canW f (n 8) j)))), (0, .ref (ad 0)), (1, .int (nI j)), (2, .int (nI w))]) hx hb dX4_next_30 hl (by decide) rfl (fun ls hl => ?_)
      refine lv_bipush (v := (-9)) hx hb dX4_next_32 (by decide) ?_
      refine lv_istore (lv' := [(5, .int (-9)), (4, .int (nI (hiP (canW f (n 8) j)))), (3, .int (nI (loP (canW f (n 8) j)))), (0, .ref (ad 0)), (1, .int (nI j)), (2, .int (nI w))]) hx hb dX4_next_34 hl (by decide) rfl (fun ls hl => ?_)
      refine lv_bipush (v := (-9)) hx hb dX4_next_36 (by decide) ?_
      refine lv_istore (lv' := [(6, .int (-9)), (5, .int (-9)), (4, .int (nI (hiP (canW f (n 8) j)))), (3, .int (nI (loP (canW f (n 8) j)))), (0, .ref (ad 0)), (1, .int (nI j)), (2, .int (nI w))]) hx hb dX4_next_38 hl (by decide) rfl (fun ls hl => ?_)
      refine lv_iconst (v := nI (0)) hx hb dX4_next_40 (by decide) ?_
      refine lv_istore (lv' := [(7, .int (nI 0)), (6, .int (-9)), (5, .int (-9)), (4, .int (nI (hiP (canW f (n 8) j)))), (3, .int (nI (loP (canW f (n 8) j)))), (0, .ref (ad 0)), (1, .int (nI j)), (2, .int (nI w))]) hx hb dX4_next_41 hl (by decide) rfl (fun ls hl => ?_)
      have loop_1 : ∀ (fuel : Nat) (t : Nat) (o : Option (Nat × Nat)), (t ≤ n 5) → (optB o (n 5) 61) → (nxS (lw f k (loP (canW f (n 8) j)) (hiP (canW f (n 8) j))) (n 5) 0 none = nxS (lw f k (loP (canW f (n 8) j)) (hiP (canW f (n 8) j))) (n 5 - t) t o) → (n 5 - t) < fuel → ∀ (locs : List Loc), va_S (rF s.heap) s.heap s.heap locs → ∀ (ls : Array Slot), lv_has ls 9 [(0, .ref (ad 0)), (2, .int (nI w)), (3, .int (nI (loP (canW f (n 8) j)))), (4, .int (nI (hiP (canW f (n 8) j)))), (5, .int (optI o 0)), (6, .int (optI o 1)), (7, .int (nI t))] → W p l e (rmD 6) s m args below meth c s.heap locs 0 0 (MQ below (rQi (spNext n f k (nI (j)) (nI (w))) s.heap) args s 0 0 (rF s.heap)) (F0 m 43 ls []) := by
        intro fuel
        induction fuel with
        | zero => intro t o hi1 ho hu hfu; exact absurd hfu (Nat.not_lt_zero _)
        | succ fuel ih_2 =>
          intro t o hi1 ho hu hfu locs hS ls hl
          rcases o with _ | ⟨bt, bf⟩
          · have hl : lv_has ls 9 [(0, .ref (ad 0)), (2, .int (nI w)), (3, .int (nI (loP (canW f (n 8) j)))), (4, .int (nI (hiP (canW f (n 8) j)))), (5, .int (-9)), (6, .int (-9)), (7, .int (nI t))] := hl
            refine lv_iload hx hb dX4_next_43 (lv_at hl 6 rfl) ?_
            refine lv_aload_n hx hb dX4_next_45 rfl (lv_at hl 0 rfl) ?_
            refine va_get (D := D) (ci := 3) (v := .ref (ad 12)) (C := RX4) (T := TX4) (N := 10) hx hb hts (iX4) hown hK hP 0 rfl rfl 2 (by decide) (hts _ (List.mem_cons_of_mem _ wt_158)) (fun _ h9 => h9) rfl dX4_next_46 ?_
            refine ro_i (roV_run (As := []) (rest := [.int (nI t)]) hx hb hml hown hts Tg_M (c_X3_size l D G _ (ad 12) (ad 13) 6 (n 5) (f 5)) lk_RX4_62 ⟨rfl, rfl, Nat.le_of_ble_eq_true rfl, Nat.le_of_ble_eq_true rfl⟩ hP hK [3, 4] rfl 3 2 rfl rfl rfl rfl hl rfl (Nat.le_of_ble_eq_true rfl) dX4_next_49 ⟨Nat.le_of_ble_eq_true rfl, Nat.le_of_ble_eq_true rfl⟩) hS hA (fun locs hS => ?_)
            refine n_icmp_ge (tgt := 94) hx hb dX4_next_52 (by decide) (by omega) (by omega) (fun c_52 => ?_) (fun c_52 => ?_)
            · refine lv_iload_n hx hb dX4_next_94 rfl (lv_at hl 1 rfl) ?_
              refine n_if_ne (tgt := 103) hx hb dX4_next_95 (by decide) (by omega) (fun c_95 => ?_) (fun c_95 => ?_)
              · refine lv_iload hx hb dX4_next_103 (lv_at hl 5 rfl) ?_
                exact ro_iret hx hb hr hlocks hS dX4_next_105 (by simp only [spNext, e_j, e_w, Option.elim]; rw [hu, show n 5 - t = 0 by omega, show w = 1 by omega]; rfl)
              · refine lv_iload hx hb dX4_next_98 (lv_at hl 4 rfl) ?_
                refine lv_goto (tgt := 105) hx hb dX4_next_100 (by decide) ?_
                exact ro_iret hx hb hr hlocks hS dX4_next_105 (by simp only [spNext, e_j, e_w, Option.elim]; rw [hu, show n 5 - t = 0 by omega, c_95]; rfl)
            · refine lv_aload_n hx hb dX4_next_55 rfl (lv_at hl 0 rfl) ?_
              refine lv_iload hx hb dX4_next_56 (lv_at hl 6 rfl) ?_
              refine lv_iload_n hx hb dX4_next_58 rfl (lv_at hl 2 rfl) ?_
              refine lv_iload hx hb dX4_next_59 (lv_at hl 3 rfl) ?_
              refine ro_i (roV_run (As := [.int (nI t), .int (nI (loP (canW f (n 8) j))), .int (nI (hiP (canW f (n 8) j)))]) (rest := []) hx hb hml hown hts Tg_M (c_X4_leftAtWorst l D G _ ad n f k b tr q t (loP (canW f (n 8) j)) (hiP (canW f (n 8) j)) hI0 c_52 (by omega) (by omega)) lk_RX4_161 ⟨rfl, rfl, Nat.le_of_ble_eq_true rfl, Nat.le_of_ble_eq_true rfl⟩ hP hK [0, 3, 4, 5, 6, 7] rfl 0 3 rfl rfl rfl rfl hl rfl (Nat.le_of_ble_eq_true rfl) dX4_next_61 ⟨Nat.le_of_ble_eq_true rfl, Nat.le_of_ble_eq_true rfl⟩) hS hA (fun locs hS => ?_)
              refine lv_istore (lv' := [(8, .int (nI (lw f k (loP (canW f (n 8) j)) (hiP (canW f (n 8) j)) t))), (0, .ref (ad 0)), (2, .int (nI w)), (3, .int (nI (loP (canW f (n 8) j)))), (4, .int (nI (hiP (canW f (n 8) j)))), (5, .int (-9)), (6, .int (-9)), (7, .int (nI t))]) hx hb dX4_next_64 hl (by decide) rfl (fun ls hl => ?_)
              refine lv_iload hx hb dX4_next_66 (lv_at hl 5 rfl) ?_
              refine lv_bipush (v := (-9)) hx hb dX4_next_68 (by decide) ?_
              refine lv_icmp_eq (tgt := 80) hx hb dX4_next_70 (by decide) (fun c_70 => ?_) (fun c_70 => ?_)
              · refine lv_iload hx hb dX4_next_80 (lv_at hl 7 rfl) ?_
                refine lv_istore (lv' := [(5, .int (nI t)), (8, .int (nI (lw f k (loP (canW f (n 8) j)) (hiP (canW f (n 8) j)) t))), (0, .ref (ad 0)), (2, .int (nI w)), (3, .int (nI (loP (canW f (n 8) j)))), (4, .int (nI (hiP (canW f (n 8) j)))), (6, .int (-9)), (7, .int (nI t))]) hx hb dX4_next_82 hl (by decide) rfl (fun ls hl => ?_)
                refine lv_iload hx hb dX4_next_84 (lv_at hl 1 rfl) ?_
                refine lv_istore (lv' := [(6, .int (nI (lw f k (loP (canW f (n 8) j)) (hiP (canW f (n 8) j)) t))), (5, .int (nI t)), (8, .int (nI (lw f k (loP (canW f (n 8) j)) (hiP (canW f (n 8) j)) t))), (0, .ref (ad 0)), (2, .int (nI w)), (3, .int (nI (loP (canW f (n 8) j)))), (4, .int (nI (hiP (canW f (n 8) j)))), (7, .int (nI t))]) hx hb dX4_next_86 hl (by decide) rfl (fun ls hl => ?_)
                refine lv_iinc (v := nI (t + 1)) (lv' := [(7, .int (nI (t + 1))), (6, .int (nI (lw f k (loP (canW f (n 8) j)) (hiP (canW f (n 8) j)) t))), (5, .int (nI t)), (8, .int (nI (lw f k (loP (canW f (n 8) j)) (hiP (canW f (n 8) j)) t))), (0, .ref (ad 0)), (2, .int (nI w)), (3, .int (nI (loP (canW f (n 8) j)))), (4, .int (nI (hiP (canW f (n 8) j))))]) hx hb dX4_next_88 hl (k := 7) rfl (nI_inc _ _) (by decide) rfl (fun ls hl => ?_)
                refine lv_goto (tgt := 43) hx hb dX4_next_91 (by decide) ?_
                exact ih_2 (t + 1) (some (t, lw f k (loP (canW f (n 8) j)) (hiP (canW f (n 8) j)) t)) (by omega) (⟨by omega, lwS_le _ _ (by omega) _ _ _ (by omega)⟩) (by rw [hu, show n 5 - t = (n 5 - (t + 1)) + 1 by omega, nxS]) (by omega) locs hS _ (lv_sub hl [4, 5, 6, 7, 2, 1, 0] rfl)
              · exact absurd rfl c_70
          · have hl : lv_has ls 9 [(0, .ref (ad 0)), (2, .int (nI w)), (3, .int (nI (loP (canW f (n 8) j)))), (4, .int (nI (hiP (canW f (n 8) j)))), (5, .int (nI bt)), (6, .int (nI bf)), (7, .int (nI t))] := hl
            refine lv_iload hx hb dX4_next_43 (lv_at hl 6 rfl) ?_
            refine lv_aload_n hx hb dX4_next_45 rfl (lv_at hl 0 rfl) ?_
            refine va_get (D := D) (ci := 3) (v := .ref (ad 12)) (C := RX4) (T := TX4) (N := 10) hx hb hts (iX4) hown hK hP 0 rfl rfl 2 (by decide) (hts _ (List.mem_cons_of_mem _ wt_158)) (fun _ h9 => h9) rfl dX4_next_46 ?_
            refine ro_i (roV_run (As := []) (rest := [.int (nI t)]) hx hb hml hown hts Tg_M (c_X3_size l D G _ (ad 12) (ad 13) 6 (n 5) (f 5)) lk_RX4_62 ⟨rfl, rfl, Nat.le_of_ble_eq_true rfl, Nat.le_of_ble_eq_true rfl⟩ hP hK [3, 4] rfl 3 2 rfl rfl rfl rfl hl rfl (Nat.le_of_ble_eq_true rfl) dX4_next_49 ⟨Nat.le_of_ble_eq_true rfl, Nat.le_of_ble_eq_true rfl⟩) hS hA (fun locs hS => ?_)
            refine n_icmp_ge (tgt := 94) hx hb dX4_next_52 (by decide) (by omega) (by omega) (fun c_52 => ?_) (fun c_52 => ?_)
            · refine lv_iload_n hx hb dX4_next_94 rfl (lv_at hl 1 rfl) ?_
              refine n_if_ne (tgt := 103) hx hb dX4_next_95 (by decide) (by omega) (fun c_95 => ?_) (fun c_95 => ?_)
              · refine lv_iload hx hb dX4_next_103 (lv_at hl 5 rfl) ?_
                exact ro_iret hx hb hr hlocks hS dX4_next_105 (by simp only [spNext, e_j, e_w, Option.elim]; rw [hu, show n 5 - t = 0 by omega, show w = 1 by omega]; rfl)
              · refine lv_iload hx hb dX4_next_98 (lv_at hl 4 rfl) ?_
                refine lv_goto (tgt := 105) hx hb dX4_next_100 (by decide) ?_
                exact ro_iret hx hb hr hlocks hS dX4_next_105 (by simp only [spNext, e_j, e_w, Option.elim]; rw [hu, show n 5 - t = 0 by omega, c_95]; rfl)
            · refine lv_aload_n hx hb dX4_next_55 rfl (lv_at hl 0 rfl) ?_
              refine lv_iload hx hb dX4_next_56 (lv_at hl 6 rfl) ?_
              refine lv_iload_n hx hb dX4_next_58 rfl (lv_at hl 2 rfl) ?_
              refine lv_iload hx hb dX4_next_59 (lv_at hl 3 rfl) ?_
              refine ro_i (roV_run (As := [.int (nI t), .int (nI (loP (canW f (n 8) j))), .int (nI (hiP (canW f (n 8) j)))]) (rest := []) hx hb hml hown hts Tg_M (c_X4_leftAtWorst l D G _ ad n f k b tr q t (loP (canW f (n 8) j)) (hiP (canW f (n 8) j)) hI0 c_52 (by omega) (by omega)) lk_RX4_161 ⟨rfl, rfl, Nat.le_of_ble_eq_true rfl, Nat.le_of_ble_eq_true rfl⟩ hP hK [0, 3, 4, 5, 6, 7] rfl 0 3 rfl rfl rfl rfl hl rfl (Nat.le_of_ble_eq_true rfl) dX4_next_61 ⟨Nat.le_of_ble_eq_true rfl, Nat.le_of_ble_eq_true rfl⟩) hS hA (fun locs hS => ?_)
              refine lv_istore (lv' := [(8, .int (nI (lw f k (loP (canW f (n 8) j)) (hiP (canW f (n 8) j)) t))), (0, .ref (ad 0)), (2, .int (nI w)), (3, .int (nI (loP (canW f (n 8) j)))), (4, .int (nI (hiP (canW f (n 8) j)))), (5, .int (nI bt)), (6, .int (nI bf)), (7, .int (nI t))]) hx hb dX4_next_64 hl (by decide) rfl (fun ls hl => ?_)
              refine lv_iload hx hb dX4_next_66 (lv_at hl 5 rfl) ?_
              refine lv_bipush (v := (-9)) hx hb dX4_next_68 (by decide) ?_
              refine lv_icmp_eq (tgt := 80) hx hb dX4_next_70 (by decide) (fun c_70 => ?_) (fun c_70 => ?_)
              · exact absurd c_70 (nI_ne9 (by omega))
              · have ho := ho
                have hg : lw f k (loP (canW f (n 8) j)) (hiP (canW f (n 8) j)) t ≤ 61 := lwS_le _ _ (by omega) _ _ _ (by omega)
                refine lv_iload hx hb dX4_next_73 (lv_at hl 0 rfl) ?_
                refine lv_iload hx hb dX4_next_75 (lv_at hl 6 rfl) ?_
                refine n_icmp_ge (tgt := 88) hx hb dX4_next_77 (by decide) (by omega) (by omega) (fun c_77 => ?_) (fun c_77 => ?_)
                · refine lv_iinc (v := nI (t + 1)) (lv' := [(7, .int (nI (t + 1))), (8, .int (nI (lw f k (loP (canW f (n 8) j)) (hiP (canW f (n 8) j)) t))), (0, .ref (ad 0)), (2, .int (nI w)), (3, .int (nI (loP (canW f (n 8) j)))), (4, .int (nI (hiP (canW f (n 8) j)))), (5, .int (nI bt)), (6, .int (nI bf))]) hx hb dX4_next_88 hl (k := 7) rfl (nI_inc _ _) (by decide) rfl (fun ls hl => ?_)
                  refine lv_goto (tgt := 43) hx hb dX4_next_91 (by decide) ?_
                  exact ih_2 (t + 1) (some (bt, bf)) (by omega) (ho) (by rw [hu, show n 5 - t = (n 5 - (t + 1)) + 1 by omega, nxS]; simp only [if_neg (Nat.not_lt.mpr c_77)]) (by omega) locs hS _ (lv_sub hl [2, 3, 4, 5, 6, 7, 0] rfl)
                · refine lv_iload hx hb dX4_next_80 (lv_at hl 7 rfl) ?_
                  refine lv_istore (lv' := [(5, .int (nI t)), (8, .int (nI (lw f k (loP (canW f (n 8) j)) (hiP (canW f (n 8) j)) t))), (0, .ref (ad 0)), (2, .int (nI w)), (3, .int (nI (loP (canW f (n 8) j)))), (4, .int (nI (hiP (canW f (n 8) j)))), (6, .int (nI bf)), (7, .int (nI t))]) hx hb dX4_next_82 hl (by decide) rfl (fun ls hl => ?_)
                  refine lv_iload hx hb dX4_next_84 (lv_at hl 1 rfl) ?_
                  refine lv_istore (lv' := [(6, .int (nI (lw f k (loP (canW f (n 8) j)) (hiP (canW f (n 8) j)) t))), (5, .int (nI t)), (8, .int (nI (lw f k (loP (canW f (n 8) j)) (hiP (canW f (n 8) j)) t))), (0, .ref (ad 0)), (2, .int (nI w)), (3, .int (nI (loP (canW f (n 8) j)))), (4, .int (nI (hiP (canW f (n 8) j)))), (7, .int (nI t))]) hx hb dX4_next_86 hl (by decide) rfl (fun ls hl => ?_)
                  refine lv_iinc (v := nI (t + 1)) (lv' := [(7, .int (nI (t + 1))), (6, .int (nI (lw f k (loP (canW f (n 8) j)) (hiP (canW f (n 8) j)) t))), (5, .int (nI t)), (8, .int (nI (lw f k (loP (canW f (n 8) j)) (hiP (canW f (n 8) j)) t))), (0, .ref (ad 0)), (2, .int (nI w)), (3, .int (nI (loP (canW f (n 8) j)))), (4, .int (nI (hiP (canW f (n 8) j))))]) hx hb dX4_next_88 hl (k := 7) rfl (nI_inc _ _) (by decide) rfl (fun ls hl => ?_)
                  refine lv_goto (tgt := 43) hx hb dX4_next_91 (by decide) ?_
                  exact ih_2 (t + 1) (some (t, lw f k (loP (canW f (n 8) j)) (hiP (canW f (n 8) j)) t)) (by omega) (⟨by omega, lwS_le _ _ (by omega) _ _ _ (by omega)⟩) (by rw [hu, show n 5 - t = (n 5 - (t + 1)) + 1 by omega, nxS]; simp only [if_pos c_77]) (by omega) locs hS _ (lv_sub hl [4, 5, 6, 7, 2, 1, 0] rfl)
      exact loop_1 (n 5 - 0 + 1) (0) (none) (by omega) (trivial) (rfl) (Nat.lt_succ_self _) locs hS _ (lv_sub hl [5, 7, 4, 3, 2, 1, 0] rfl)
    · have e_w := ir_no c_14
      refine lv_iconst (v := (-1)) hx hb dX4_next_17 (by decide) ?_
      exact ro_iret hx hb hr hlocks hS dX4_next_18 (by simp only [spNext, e_j, e_w, Option.elim])
