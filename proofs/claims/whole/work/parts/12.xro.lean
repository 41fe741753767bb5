set_option maxHeartbeats 4000000 in
set_option maxRecDepth 100000 in
theorem c_X4_isWithin (l : Launch) (D : va_G) (G : ClassId × ClassId × ClassId) (H0 : Heap) (x lo hi : Int32)  : Met l yX4_isWithin (wM yX4_isWithin cX4_isWithin 3 (some .boolean)) (rmD 1) (rP D G [.int (x), .int (lo), .int (hi)] [] H0) (rQi (bI (inR x lo hi)) H0) 0 0 (rF H0) := by
  refine ro_start (Qc := fun H0 => (rQi (bI (inR x lo hi)) H0)) (by decide) (Nat.le_of_ble_eq_true rfl) ?_
  intro p e s m args below meth c hx hb hr hts hown hlocks hml hP hK hA hH0 ls hl locs hS
  have hl : lv_has ls 3 [(0, .int (x)), (1, .int (lo)), (2, .int (hi))] := hl
  refine lv_iload_n hx hb dX4_isWithin_0 rfl (lv_at hl 0 rfl) ?_
  refine lv_iload_n hx hb dX4_isWithin_1 rfl (lv_at hl 1 rfl) ?_
  refine lv_icmp_lt (tgt := 14) hx hb dX4_isWithin_2 (by decide) (fun c_2 => ?_) (fun c_2 => ?_)
  · refine lv_iconst (v := nI (0)) hx hb dX4_isWithin_14 (by decide) ?_
    exact ro_zret hx hb hr hlocks hS dX4_isWithin_15 (rfl) (bI_of_f (decide_eq_false (fun q => absurd q.1 (Int32.not_le.mpr c_2))))
  · refine lv_iload_n hx hb dX4_isWithin_5 rfl (lv_at hl 0 rfl) ?_
    refine lv_iload_n hx hb dX4_isWithin_6 rfl (lv_at hl 2 rfl) ?_
    refine lv_icmp_gt (tgt := 14) hx hb dX4_isWithin_7 (by decide) (fun c_7 => ?_) (fun c_7 => ?_)
    · refine lv_iconst (v := nI (0)) hx hb dX4_isWithin_14 (by decide) ?_
      exact ro_zret hx hb hr hlocks hS dX4_isWithin_15 (rfl) (bI_of_f (decide_eq_false (fun q => absurd q.2 (Int32.not_le.mpr c_7))))
    · refine lv_iconst (v := nI (1)) hx hb dX4_isWithin_10 (by decide) ?_
      refine lv_goto (tgt := 15) hx hb dX4_isWithin_11 (by decide) ?_
      exact ro_zret hx hb hr hlocks hS dX4_isWithin_15 (rfl) (bI_of_t (decide_eq_true ⟨Int32.not_lt.mp c_2, Int32.not_lt.mp c_7⟩))

set_option maxHeartbeats 4000000 in
set_option maxRecDepth 100000 in
theorem c_X4_isWeight (l : Launch) (D : va_G) (G : ClassId × ClassId × ClassId) (H0 : Heap) (x : Int32)  : Met l yX4_isWeight (wM yX4_isWeight cX4_isWeight 1 (some .boolean)) (rmD 2) (rP D G [.int (x)] [] H0) (rQi (bI (inR x (nI (0)) (nI (60)))) H0) 0 0 (rF H0) := by
  refine ro_start (Qc := fun H0 => (rQi (bI (inR x (nI (0)) (nI (60)))) H0)) (by decide) (Nat.le_of_ble_eq_true rfl) ?_
  intro p e s m args below meth c hx hb hr hts hown hlocks hml hP hK hA hH0 ls hl locs hS
  have hl : lv_has ls 1 [(0, .int (x))] := hl
  refine lv_iload_n hx hb dX4_isWeight_0 rfl (lv_at hl 0 rfl) ?_
  refine lv_iconst (v := nI (0)) hx hb dX4_isWeight_1 (by decide) ?_
  refine lv_bipush (v := nI (60)) hx hb dX4_isWeight_2 (by decide) ?_
  refine ro_i (roS_run (As := [.int (x), .int (nI 0), .int (nI 60)]) (rest := []) hx hb hml hown hts Tg_M (c_X4_isWithin l D G _ (x) (nI (0)) (nI (60))) lk_RX4_55 ⟨rfl, rfl, Nat.le_of_ble_eq_true rfl, Nat.le_of_ble_eq_true rfl⟩ hP hK [] rfl rfl hl rfl (Nat.le_of_ble_eq_true rfl) dX4_isWeight_4 ⟨Nat.le_of_ble_eq_true rfl, Nat.le_of_ble_eq_true rfl⟩) hS hA (fun locs hS => ?_)
  exact ro_zret hx hb hr hlocks hS dX4_isWeight_7 (narrow_bI _) (rfl)

set_option maxHeartbeats 4000000 in
set_option maxRecDepth 100000 in
theorem c_X4_isLoad (l : Launch) (D : va_G) (G : ClassId × ClassId × ClassId) (H0 : Heap) (ad n : Nat → Nat) (f : Nat → Nat → Nat) (k : Nat → Nat) (b : Nat → Bool) (tr : Int64) (i : Int32)  : Met l yX4_isLoad (wM yX4_isLoad cX4_isLoad 2 (some .boolean)) (rmD 2) (rP D G [.ref (ad 0), .int (i)] [(ad 0, .inr (3, [.ref (ad 1), .ref (ad 10), .ref (ad 12), .ref (ad 14), .ref (ad 16), .ref (ad 21), .ref (ad 26), .int (bI (b 1)), .int (bI (b 2)), .long (tr)])), (ad 10, .inr (2, [.ref (ad 11), .int (nI (n 4))])), (ad 11, .inl (G.1, 5, .inl (nF (f 4))))] H0) (rQi (bI (hasB i (n 4))) H0) 0 0 (rF H0) := by
  refine ro_start (Qc := fun H0 => (rQi (bI (hasB i (n 4))) H0)) (by decide) (Nat.le_of_ble_eq_true rfl) ?_
  intro p e s m args below meth c hx hb hr hts hown hlocks hml hP hK hA hH0 ls hl locs hS
  have hl : lv_has ls 2 [(0, .ref (ad 0)), (1, .int (i))] := hl
  refine lv_aload_n hx hb dX4_isLoad_0 rfl (lv_at hl 0 rfl) ?_
  refine va_get (D := D) (ci := 3) (v := .ref (ad 10)) (C := RX4) (T := TX4) (N := 10) hx hb hts (iX4) hown hK hP 0 rfl rfl 1 (by decide) (hts _ (List.mem_cons_of_mem _ wt_157)) (fun _ h9 => h9) rfl dX4_isLoad_1 ?_
  refine lv_iload_n hx hb dX4_isLoad_4 rfl (lv_at hl 1 rfl) ?_
  refine ro_i (roV_run (As := [.int (i)]) (rest := []) hx hb hml hown hts Tg_M (c_X3_has l D G _ (ad 10) (ad 11) 5 (n 4) (f 4) (i)) lk_RX4_210 ⟨rfl, rfl, Nat.le_of_ble_eq_true rfl, Nat.le_of_ble_eq_true rfl⟩ hP hK [1, 2] rfl 1 2 rfl rfl rfl rfl hl rfl (Nat.le_of_ble_eq_true rfl) dX4_isLoad_5 ⟨Nat.le_of_ble_eq_true rfl, Nat.le_of_ble_eq_true rfl⟩) hS hA (fun locs hS => ?_)
  exact ro_zret hx hb hr hlocks hS dX4_isLoad_8 (narrow_bI _) (rfl)

set_option maxHeartbeats 4000000 in
set_option maxRecDepth 100000 in
theorem c_X4_isTaster (l : Launch) (D : va_G) (G : ClassId × ClassId × ClassId) (H0 : Heap) (ad n : Nat → Nat) (f : Nat → Nat → Nat) (k : Nat → Nat) (b : Nat → Bool) (tr : Int64) (i : Int32)  : Met l yX4_isTaster (wM yX4_isTaster cX4_isTaster 2 (some .boolean)) (rmD 2) (rP D G [.ref (ad 0), .int (i)] [(ad 0, .inr (3, [.ref (ad 1), .ref (ad 10), .ref (ad 12), .ref (ad 14), .ref (ad 16), .ref (ad 21), .ref (ad 26), .int (bI (b 1)), .int (bI (b 2)), .long (tr)])), (ad 12, .inr (2, [.ref (ad 13), .int (nI (n 5))])), (ad 13, .inl (G.1, 6, .inl (nF (f 5))))] H0) (rQi (bI (hasB i (n 5))) H0) 0 0 (rF H0) := by
  refine ro_start (Qc := fun H0 => (rQi (bI (hasB i (n 5))) H0)) (by decide) (Nat.le_of_ble_eq_true rfl) ?_
  intro p e s m args below meth c hx hb hr hts hown hlocks hml hP hK hA hH0 ls hl locs hS
  have hl : lv_has ls 2 [(0, .ref (ad 0)), (1, .int (i))] := hl
  refine lv_aload_n hx hb dX4_isTaster_0 rfl (lv_at hl 0 rfl) ?_
  refine va_get (D := D) (ci := 3) (v := .ref (ad 12)) (C := RX4) (T := TX4) (N := 10) hx hb hts (iX4) hown hK hP 0 rfl rfl 2 (by decide) (hts _ (List.mem_cons_of_mem _ wt_158)) (fun _ h9 => h9) rfl dX4_isTaster_1 ?_
  refine lv_iload_n hx hb dX4_isTaster_4 rfl (lv_at hl 1 rfl) ?_
  refine ro_i (roV_run (As := [.int (i)]) (rest := []) hx hb hml hown hts Tg_M (c_X3_has l D G _ (ad 12) (ad 13) 6 (n 5) (f 5) (i)) lk_RX4_210 ⟨rfl, rfl, Nat.le_of_ble_eq_true rfl, Nat.le_of_ble_eq_true rfl⟩ hP hK [1, 2] rfl 1 2 rfl rfl rfl rfl hl rfl (Nat.le_of_ble_eq_true rfl) dX4_isTaster_5 ⟨Nat.le_of_ble_eq_true rfl, Nat.le_of_ble_eq_true rfl⟩) hS hA (fun locs hS => ?_)
  exact ro_zret hx hb hr hlocks hS dX4_isTaster_8 (narrow_bI _) (rfl)

set_option maxHeartbeats 4000000 in
set_option maxRecDepth 100000 in
theorem c_X4_isTasting (l : Launch) (D : va_G) (G : ClassId × ClassId × ClassId) (H0 : Heap) (x y z : Int32)  : Met l yX4_isTasting (wM yX4_isTasting cX4_isTasting 3 (some .boolean)) (rmD 3) (rP D G [.int (x), .int (y), .int (z)] [] H0) (rQi (bI (inR x (nI (0)) (nI (60)) && inR y (nI (0)) (nI (9)) && inR z (nI (0)) (nI (9)))) H0) 0 0 (rF H0) := by
  refine ro_start (Qc := fun H0 => (rQi (bI (inR x (nI (0)) (nI (60)) && inR y (nI (0)) (nI (9)) && inR z (nI (0)) (nI (9)))) H0)) (by decide) (Nat.le_of_ble_eq_true rfl) ?_
  intro p e s m args below meth c hx hb hr hts hown hlocks hml hP hK hA hH0 ls hl locs hS
  have hl : lv_has ls 3 [(0, .int (x)), (1, .int (y)), (2, .int (z))] := hl
  refine lv_iload_n hx hb dX4_isTasting_0 rfl (lv_at hl 0 rfl) ?_
  refine ro_i (roS_run (As := [.int (x)]) (rest := []) hx hb hml hown hts Tg_M (c_X4_isWeight l D G _ (x)) lk_RX4_118 ⟨rfl, rfl, Nat.le_of_ble_eq_true rfl, Nat.le_of_ble_eq_true rfl⟩ hP hK [] rfl rfl hl rfl (Nat.le_of_ble_eq_true rfl) dX4_isTasting_1 ⟨Nat.le_of_ble_eq_true rfl, Nat.le_of_ble_eq_true rfl⟩) hS hA (fun locs hS => ?_)
  refine b_if_eq (tgt := 31) hx hb dX4_isTasting_4 (by decide) (fun c_4 => ?_) (fun c_4 => ?_)
  · refine lv_iconst (v := nI (0)) hx hb dX4_isTasting_31 (by decide) ?_
    exact ro_zret hx hb hr hlocks hS dX4_isTasting_32 (rfl) (bI_of_f (by rw [c_4]; simp))
  · refine lv_iload_n hx hb dX4_isTasting_7 rfl (lv_at hl 1 rfl) ?_
    refine lv_iconst (v := nI (0)) hx hb dX4_isTasting_8 (by decide) ?_
    refine lv_bipush (v := nI (9)) hx hb dX4_isTasting_9 (by decide) ?_
    refine ro_i (roS_run (As := [.int (y), .int (nI 0), .int (nI 9)]) (rest := []) hx hb hml hown hts Tg_M (c_X4_isWithin l D G _ (y) (nI (0)) (nI (9))) lk_RX4_55 ⟨rfl, rfl, Nat.le_of_ble_eq_true rfl, Nat.le_of_ble_eq_true rfl⟩ hP hK [] rfl rfl hl rfl (Nat.le_of_ble_eq_true rfl) dX4_isTasting_11 ⟨Nat.le_of_ble_eq_true rfl, Nat.le_of_ble_eq_true rfl⟩) hS hA (fun locs hS => ?_)
    refine b_if_eq (tgt := 31) hx hb dX4_isTasting_14 (by decide) (fun c_14 => ?_) (fun c_14 => ?_)
    · refine lv_iconst (v := nI (0)) hx hb dX4_isTasting_31 (by decide) ?_
      exact ro_zret hx hb hr hlocks hS dX4_isTasting_32 (rfl) (bI_of_f (by rw [c_14]; simp))
    · refine lv_iload_n hx hb dX4_isTasting_17 rfl (lv_at hl 2 rfl) ?_
      refine lv_iconst (v := nI (0)) hx hb dX4_isTasting_18 (by decide) ?_
      refine lv_bipush (v := nI (9)) hx hb dX4_isTasting_19 (by decide) ?_
      refine ro_i (roS_run (As := [.int (z), .int (nI 0), .int (nI 9)]) (rest := []) hx hb hml hown hts Tg_M (c_X4_isWithin l D G _ (z) (nI (0)) (nI (9))) lk_RX4_55 ⟨rfl, rfl, Nat.le_of_ble_eq_true rfl, Nat.le_of_ble_eq_true rfl⟩ hP hK [] rfl rfl hl rfl (Nat.le_of_ble_eq_true rfl) dX4_isTasting_21 ⟨Nat.le_of_ble_eq_true rfl, Nat.le_of_ble_eq_true rfl⟩) hS hA (fun locs hS => ?_)
      refine b_if_eq (tgt := 31) hx hb dX4_isTasting_24 (by decide) (fun c_24 => ?_) (fun c_24 => ?_)
      · refine lv_iconst (v := nI (0)) hx hb dX4_isTasting_31 (by decide) ?_
        exact ro_zret hx hb hr hlocks hS dX4_isTasting_32 (rfl) (bI_of_f (by rw [c_24]; simp))
      · refine lv_iconst (v := nI (1)) hx hb dX4_isTasting_27 (by decide) ?_
        refine lv_goto (tgt := 32) hx hb dX4_isTasting_28 (by decide) ?_
        exact ro_zret hx hb hr hlocks hS dX4_isTasting_32 (rfl) (bI_of_t (by rw [c_4, c_14, c_24]; rfl))

set_option maxHeartbeats 4000000 in
set_option maxRecDepth 100000 in
theorem c_X4_facts (l : Launch) (D : va_G) (G : ClassId × ClassId × ClassId) (H0 : Heap) (ad n : Nat → Nat) (f : Nat → Nat → Nat) (k : Nat → Nat) (b : Nat → Bool) (tr : Int64) (h8 : n 8 ≤ 12) : Met l yX4_facts (wM yX4_facts cX4_facts 1 (some .int)) (rmD 2) (rP D G [.ref (ad 0)] [(ad 0, .inr (3, [.ref (ad 1), .ref (ad 10), .ref (ad 12), .ref (ad 14), .ref (ad 16), .ref (ad 21), .ref (ad 26), .int (bI (b 1)), .int (bI (b 2)), .long (tr)])), (ad 16, .inr (0, [.ref (ad 17), .ref (ad 19), .int (nI (k 5))])), (ad 19, .inr (2, [.ref (ad 20), .int (nI (6 * n 8))])), (ad 20, .inl (G.1, 72, .inl (nF (f 8))))] H0) (rQi (nI (n 8)) H0) 0 0 (rF H0) := by
  refine ro_start (Qc := fun H0 => (rQi (nI (n 8)) H0)) (by decide) (Nat.le_of_ble_eq_true rfl) ?_
  intro p e s m args below meth c hx hb hr hts hown hlocks hml hP hK hA hH0 ls hl locs hS
  have hl : lv_has ls 1 [(0, .ref (ad 0))] := hl
  refine lv_aload_n hx hb dX4_facts_0 rfl (lv_at hl 0 rfl) ?_
  refine va_get (D := D) (ci := 3) (v := .ref (ad 16)) (C := RX4) (T := TX4) (N := 10) hx hb hts (iX4) hown hK hP 0 rfl rfl 4 (by decide) (hts _ (List.mem_cons_of_mem _ wt_160)) (fun _ h9 => h9) rfl dX4_facts_1 ?_
  refine va_get (D := D) (ci := 0) (v := .ref (ad 19)) (C := RX1) (T := TX1) (N := 3) hx hb hts (iX1) hown hK hP 1 rfl rfl 1 (by decide) (hts _ (List.mem_cons_of_mem _ wt_146)) (fun _ h9 => h9) rfl dX4_facts_4 ?_
  refine ro_i (roV_run (As := []) (rest := []) hx hb hml hown hts Tg_M (c_X3_size l D G _ (ad 19) (ad 20) 72 (6 * n 8) (f 8)) lk_RX4_62 ⟨rfl, rfl, Nat.le_of_ble_eq_true rfl, Nat.le_of_ble_eq_true rfl⟩ hP hK [2, 3] rfl 2 2 rfl rfl rfl rfl hl rfl (Nat.le_of_ble_eq_true rfl) dX4_facts_7 ⟨Nat.le_of_ble_eq_true rfl, Nat.le_of_ble_eq_true rfl⟩) hS hA (fun locs hS => ?_)
  refine lv_bipush (v := nI (6)) hx hb dX4_facts_10 (by decide) ?_
  refine n_idiv hx hb dX4_facts_12 (by omega) (by omega) (by omega) ?_
  refine n_tope (show nI ((6 * n 8) / 6) = nI (n 8) from by rw [Nat.mul_div_cancel_left _ (by decide)]) ?_
  exact ro_iret hx hb hr hlocks hS dX4_facts_13 (rfl)

set_option maxHeartbeats 4000000 in
set_option maxRecDepth 100000 in
theorem c_X4_fact (l : Launch) (D : va_G) (G : ClassId × ClassId × ClassId) (H0 : Heap) (ad n : Nat → Nat) (f : Nat → Nat → Nat) (k : Nat → Nat) (b : Nat → Bool) (tr : Int64) (i pt : Nat) (h8 : n 8 ≤ 12) (hi : i < n 8) (hc : pt < 6) : Met l yX4_fact (wM yX4_fact cX4_fact 3 (some .int)) (rmD 2) (rP D G [.ref (ad 0), .int (nI i), .int (nI pt)] [(ad 0, .inr (3, [.ref (ad 1), .ref (ad 10), .ref (ad 12), .ref (ad 14), .ref (ad 16), .ref (ad 21), .ref (ad 26), .int (bI (b 1)), .int (bI (b 2)), .long (tr)])), (ad 16, .inr (0, [.ref (ad 17), .ref (ad 19), .int (nI (k 5))])), (ad 19, .inr (2, [.ref (ad 20), .int (nI (6 * n 8))])), (ad 20, .inl (G.1, 72, .inl (nF (f 8))))] H0) (rQi (nI (f 8 (6 * i + pt))) H0) 0 0 (rF H0) := by
  refine ro_start (Qc := fun H0 => (rQi (nI (f 8 (6 * i + pt))) H0)) (by decide) (Nat.le_of_ble_eq_true rfl) ?_
  intro p e s m args below meth c hx hb hr hts hown hlocks hml hP hK hA hH0 ls hl locs hS
  have hl : lv_has ls 3 [(0, .ref (ad 0)), (1, .int (nI i)), (2, .int (nI pt))] := hl
  refine lv_aload_n hx hb dX4_fact_0 rfl (lv_at hl 0 rfl) ?_
  refine va_get (D := D) (ci := 3) (v := .ref (ad 16)) (C := RX4) (T := TX4) (N := 10) hx hb hts (iX4) hown hK hP 0 rfl rfl 4 (by decide) (hts _ (List.mem_cons_of_mem _ wt_160)) (fun _ h9 => h9) rfl dX4_fact_1 ?_
  refine va_get (D := D) (ci := 0) (v := .ref (ad 19)) (C := RX1) (T := TX1) (N := 3) hx hb hts (iX1) hown hK hP 1 rfl rfl 1 (by decide) (hts _ (List.mem_cons_of_mem _ wt_146)) (fun _ h9 => h9) rfl dX4_fact_4 ?_
  refine lv_iload_n hx hb dX4_fact_7 rfl (lv_at hl 1 rfl) ?_
  refine lv_bipush (v := nI (6)) hx hb dX4_fact_8 (by decide) ?_
  refine n_imul hx hb dX4_fact_10 ?_
  refine lv_iload_n hx hb dX4_fact_11 rfl (lv_at hl 2 rfl) ?_
  refine n_iadd hx hb dX4_fact_12 ?_
  refine ro_i (roV_run (As := [.int (nI ((i * 6) + pt))]) (rest := []) hx hb hml hown hts Tg_M (c_X3_at l D G _ (ad 19) (ad 20) 72 (6 * n 8) (f 8) ((i * 6) + pt) (by omega) (by omega) (by omega)) lk_RX4_102 ⟨rfl, rfl, Nat.le_of_ble_eq_true rfl, Nat.le_of_ble_eq_true rfl⟩ hP hK [2, 3] rfl 2 2 rfl rfl rfl rfl hl rfl (Nat.le_of_ble_eq_true rfl) dX4_fact_13 ⟨Nat.le_of_ble_eq_true rfl, Nat.le_of_ble_eq_true rfl⟩) hS hA (fun locs hS => ?_)
  refine n_tope (show nI ((f 8) ((i * 6) + pt)) = nI (f 8 (6 * i + pt)) from by rw [Nat.mul_comm i 6]) ?_
  exact ro_iret hx hb hr hlocks hS dX4_fact_16 (rfl)

set_option maxHeartbeats 4000000 in
set_option maxRecDepth 100000 in
theorem c_X4_thirst (l : Launch) (D : va_G) (G : ClassId × ClassId × ClassId) (H0 : Heap) (ad n : Nat → Nat) (f : Nat → Nat → Nat) (k : Nat → Nat) (b : Nat → Bool) (tr : Int64) (q t j : Nat) (hI : XI n f k q) (ht : t < n 5) (hj : j < n 4) : Met l yX4_thirst (wM yX4_thirst cX4_thirst 3 (some .int)) (rmD 3) (rP D G [.ref (ad 0), .int (nI t), .int (nI j)] [(ad 0, .inr (3, [.ref (ad 1), .ref (ad 10), .ref (ad 12), .ref (ad 14), .ref (ad 16), .ref (ad 21), .ref (ad 26), .int (bI (b 1)), .int (bI (b 2)), .long (tr)])), (ad 10, .inr (2, [.ref (ad 11), .int (nI (n 4))])), (ad 11, .inl (G.1, 5, .inl (nF (f 4)))), (ad 12, .inr (2, [.ref (ad 13), .int (nI (n 5))])), (ad 13, .inl (G.1, 6, .inl (nF (f 5)))), (ad 16, .inr (0, [.ref (ad 17), .ref (ad 19), .int (nI (k 5))])), (ad 17, .inr (2, [.ref (ad 18), .int (nI (n 7))])), (ad 18, .inl (G.1, 6, .inl (nF (f 7))))] H0) (rQi (nI (drk (f 5 t) (f 4 j) (f 7 t) (k 5))) H0) 0 0 (rF H0) := by
  refine ro_start (Qc := fun H0 => (rQi (nI (drk (f 5 t) (f 4 j) (f 7 t) (k 5))) H0)) (by decide) (Nat.le_of_ble_eq_true rfl) ?_
  intro p e s m args below meth c hx hb hr hts hown hlocks hml hP hK hA hH0 ls hl locs hS
  have hl : lv_has ls 3 [(0, .ref (ad 0)), (1, .int (nI t)), (2, .int (nI j))] := hl
  obtain ⟨i4, i5, i6, iq, iw, il, i7, i8, ih9, ik, iF⟩ := hI
  have e1 := il t ht
  have e2 := iw j hj
  have e3 := ik t ht
  refine lv_aload_n hx hb dX4_thirst_0 rfl (lv_at hl 0 rfl) ?_
  refine va_get (D := D) (ci := 3) (v := .ref (ad 12)) (C := RX4) (T := TX4) (N := 10) hx hb hts (iX4) hown hK hP 0 rfl rfl 2 (by decide) (hts _ (List.mem_cons_of_mem _ wt_158)) (fun _ h9 => h9) rfl dX4_thirst_1 ?_
  refine lv_iload_n hx hb dX4_thirst_4 rfl (lv_at hl 1 rfl) ?_
  refine ro_i (roV_run (As := [.int (nI t)]) (rest := []) hx hb hml hown hts Tg_M (c_X3_at l D G _ (ad 12) (ad 13) 6 (n 5) (f 5) t (by omega) (by omega) (by omega)) lk_RX4_102 ⟨rfl, rfl, Nat.le_of_ble_eq_true rfl, Nat.le_of_ble_eq_true rfl⟩ hP hK [3, 4] rfl 3 2 rfl rfl rfl rfl hl rfl (Nat.le_of_ble_eq_true rfl) dX4_thirst_5 ⟨Nat.le_of_ble_eq_true rfl, Nat.le_of_ble_eq_true rfl⟩) hS hA (fun locs hS => ?_)
  refine lv_aload_n hx hb dX4_thirst_8 rfl (lv_at hl 0 rfl) ?_
  refine va_get (D := D) (ci := 3) (v := .ref (ad 10)) (C := RX4) (T := TX4) (N := 10) hx hb hts (iX4) hown hK hP 0 rfl rfl 1 (by decide) (hts _ (List.mem_cons_of_mem _ wt_157)) (fun _ h9 => h9) rfl dX4_thirst_9 ?_
  refine lv_iload_n hx hb dX4_thirst_12 rfl (lv_at hl 2 rfl) ?_
  refine ro_i (roV_run (As := [.int (nI j)]) (rest := [.int (nI ((f 5) t))]) hx hb hml hown hts Tg_M (c_X3_at l D G _ (ad 10) (ad 11) 5 (n 4) (f 4) j (by omega) (by omega) (by omega)) lk_RX4_102 ⟨rfl, rfl, Nat.le_of_ble_eq_true rfl, Nat.le_of_ble_eq_true rfl⟩ hP hK [1, 2] rfl 1 2 rfl rfl rfl rfl hl rfl (Nat.le_of_ble_eq_true rfl) dX4_thirst_13 ⟨Nat.le_of_ble_eq_true rfl, Nat.le_of_ble_eq_true rfl⟩) hS hA (fun locs hS => ?_)
  refine lv_aload_n hx hb dX4_thirst_16 rfl (lv_at hl 0 rfl) ?_
  refine va_get (D := D) (ci := 3) (v := .ref (ad 16)) (C := RX4) (T := TX4) (N := 10) hx hb hts (iX4) hown hK hP 0 rfl rfl 4 (by decide) (hts _ (List.mem_cons_of_mem _ wt_160)) (fun _ h9 => h9) rfl dX4_thirst_17 ?_
  refine va_get (D := D) (ci := 0) (v := .ref (ad 17)) (C := RX1) (T := TX1) (N := 3) hx hb hts (iX1) hown hK hP 5 rfl rfl 0 (by decide) (hts _ (List.mem_cons_of_mem _ wt_144)) (fun _ h9 => h9) rfl dX4_thirst_20 ?_
  refine lv_iload_n hx hb dX4_thirst_23 rfl (lv_at hl 1 rfl) ?_
  refine ro_i (roV_run (As := [.int (nI t)]) (rest := [.int (nI ((f 4) j)), .int (nI ((f 5) t))]) hx hb hml hown hts Tg_M (c_X3_at l D G _ (ad 17) (ad 18) 6 (n 7) (f 7) t (by omega) (by omega) (by omega)) lk_RX4_102 ⟨rfl, rfl, Nat.le_of_ble_eq_true rfl, Nat.le_of_ble_eq_true rfl⟩ hP hK [6, 7] rfl 6 2 rfl rfl rfl rfl hl rfl (Nat.le_of_ble_eq_true rfl) dX4_thirst_24 ⟨Nat.le_of_ble_eq_true rfl, Nat.le_of_ble_eq_true rfl⟩) hS hA (fun locs hS => ?_)
  refine lv_aload_n hx hb dX4_thirst_27 rfl (lv_at hl 0 rfl) ?_
  refine va_get (D := D) (ci := 3) (v := .ref (ad 16)) (C := RX4) (T := TX4) (N := 10) hx hb hts (iX4) hown hK hP 0 rfl rfl 4 (by decide) (hts _ (List.mem_cons_of_mem _ wt_160)) (fun _ h9 => h9) rfl dX4_thirst_28 ?_
  refine va_get (D := D) (ci := 0) (v := .int (nI (k 5))) (C := RX1) (T := TX1) (N := 3) hx hb hts (iX1) hown hK hP 5 rfl rfl 2 (by decide) (hts _ (List.mem_cons_of_mem _ wt_148)) (fun _ h9 => h9) rfl dX4_thirst_31 ?_
  refine ro_i (roS_run (As := [.int (nI ((f 5) t)), .int (nI ((f 4) j)), .int (nI ((f 7) t)), .int (nI (k 5))]) (rest := []) hx hb hml hown hts Tg_M (c_X0_drinks l D G _ ((f 5) t) ((f 4) j) ((f 7) t) (k 5) (by omega) (by omega) (by omega) (by omega)) lk_RX4_122 ⟨rfl, rfl, Nat.le_of_ble_eq_true rfl, Nat.le_of_ble_eq_true rfl⟩ hP hK [] rfl rfl hl rfl (Nat.le_of_ble_eq_true rfl) dX4_thirst_34 ⟨Nat.le_of_ble_eq_true rfl, Nat.le_of_ble_eq_true rfl⟩) hS hA (fun locs hS => ?_)
  exact ro_iret hx hb hr hlocks hS dX4_thirst_37 (rfl)

set_option maxHeartbeats 4000000 in
set_option maxRecDepth 100000 in
theorem c_X4_drinksIn (l : Launch) (D : va_G) (G : ClassId × ClassId × ClassId) (H0 : Heap) (ad n : Nat → Nat) (f : Nat → Nat → Nat) (k : Nat → Nat) (b : Nat → Bool) (tr : Int64) (q i w : Nat) (hI : XI n f k q) (hi : i < n 8) (hw : w ≤ 60) : Met l yX4_drinksIn (wM yX4_drinksIn cX4_drinksIn 3 (some .int)) (rmD 3) (rP D G [.ref (ad 0), .int (nI i), .int (nI w)] [(ad 0, .inr (3, [.ref (ad 1), .ref (ad 10), .ref (ad 12), .ref (ad 14), .ref (ad 16), .ref (ad 21), .ref (ad 26), .int (bI (b 1)), .int (bI (b 2)), .long (tr)])), (ad 12, .inr (2, [.ref (ad 13), .int (nI (n 5))])), (ad 13, .inl (G.1, 6, .inl (nF (f 5)))), (ad 16, .inr (0, [.ref (ad 17), .ref (ad 19), .int (nI (k 5))])), (ad 19, .inr (2, [.ref (ad 20), .int (nI (6 * n 8))])), (ad 20, .inl (G.1, 72, .inl (nF (f 8))))] H0) (rQi (nI (drk (f 5 (f 8 (6 * i + 0))) w (f 8 (6 * i + 1)) (f 8 (6 * i + 2)))) H0) 0 0 (rF H0) := by
  refine ro_start (Qc := fun H0 => (rQi (nI (drk (f 5 (f 8 (6 * i + 0))) w (f 8 (6 * i + 1)) (f 8 (6 * i + 2)))) H0)) (by decide) (Nat.le_of_ble_eq_true rfl) ?_
  intro p e s m args below meth c hx hb hr hts hown hlocks hml hP hK hA hH0 ls hl locs hS
  have hl : lv_has ls 3 [(0, .ref (ad 0)), (1, .int (nI i)), (2, .int (nI w))] := hl
  obtain ⟨i4, i5, i6, iq, iw, il, i7, i8, ih9, ik, iF⟩ := hI
  have e0 := iF i hi
  have e1 := il _ e0.1
  refine lv_aload_n hx hb dX4_drinksIn_0 rfl (lv_at hl 0 rfl) ?_
  refine va_get (D := D) (ci := 3) (v := .ref (ad 12)) (C := RX4) (T := TX4) (N := 10) hx hb hts (iX4) hown hK hP 0 rfl rfl 2 (by decide) (hts _ (List.mem_cons_of_mem _ wt_158)) (fun _ h9 => h9) rfl dX4_drinksIn_1 ?_
  refine lv_aload_n hx hb dX4_drinksIn_4 rfl (lv_at hl 0 rfl) ?_
  refine lv_iload_n hx hb dX4_drinksIn_5 rfl (lv_at hl 1 rfl) ?_
  refine lv_iconst (v := nI (0)) hx hb dX4_drinksIn_6 (by decide) ?_
  refine ro_i (roV_run (As := [.int (nI i), .int (nI 0)]) (rest := [.ref (ad 12)]) hx hb hml hown hts Tg_M (c_X4_fact l D G _ ad n f k b tr i 0 (by omega) (by omega) (by omega)) lk_RX4_147 ⟨rfl, rfl, Nat.le_of_ble_eq_true rfl, Nat.le_of_ble_eq_true rfl⟩ hP hK [0, 3, 4, 5] rfl 0 3 rfl rfl rfl rfl hl rfl (Nat.le_of_ble_eq_true rfl) dX4_drinksIn_7 ⟨Nat.le_of_ble_eq_true rfl, Nat.le_of_ble_eq_true rfl⟩) hS hA (fun locs hS => ?_)
  refine ro_i (roV_run (As := [.int (nI (f 8 (6 * i + 0)))]) (rest := []) hx hb hml hown hts Tg_M (c_X3_at l D G _ (ad 12) (ad 13) 6 (n 5) (f 5) (f 8 (6 * i + 0)) (by omega) (by omega) (by omega)) lk_RX4_102 ⟨rfl, rfl, Nat.le_of_ble_eq_true rfl, Nat.le_of_ble_eq_true rfl⟩ hP hK [1, 2] rfl 1 2 rfl rfl rfl rfl hl rfl (Nat.le_of_ble_eq_true rfl) dX4_drinksIn_10 ⟨Nat.le_of_ble_eq_true rfl, Nat.le_of_ble_eq_true rfl⟩) hS hA (fun locs hS => ?_)
  refine lv_iload_n hx hb dX4_drinksIn_13 rfl (lv_at hl 2 rfl) ?_
  refine lv_aload_n hx hb dX4_drinksIn_14 rfl (lv_at hl 0 rfl) ?_
  refine lv_iload_n hx hb dX4_drinksIn_15 rfl (lv_at hl 1 rfl) ?_
  refine lv_iconst (v := nI (1)) hx hb dX4_drinksIn_16 (by decide) ?_
  refine ro_i (roV_run (As := [.int (nI i), .int (nI 1)]) (rest := [.int (nI w), .int (nI ((f 5) (f 8 (6 * i + 0))))]) hx hb hml hown hts Tg_M (c_X4_fact l D G _ ad n f k b tr i 1 (by omega) (by omega) (by omega)) lk_RX4_147 ⟨rfl, rfl, Nat.le_of_ble_eq_true rfl, Nat.le_of_ble_eq_true rfl⟩ hP hK [0, 3, 4, 5] rfl 0 3 rfl rfl rfl rfl hl rfl (Nat.le_of_ble_eq_true rfl) dX4_drinksIn_17 ⟨Nat.le_of_ble_eq_true rfl, Nat.le_of_ble_eq_true rfl⟩) hS hA (fun locs hS => ?_)
  refine lv_aload_n hx hb dX4_drinksIn_20 rfl (lv_at hl 0 rfl) ?_
  refine lv_iload_n hx hb dX4_drinksIn_21 rfl (lv_at hl 1 rfl) ?_
  refine lv_iconst (v := nI (2)) hx hb dX4_drinksIn_22 (by decide) ?_
  refine ro_i (roV_run (As := [.int (nI i), .int (nI 2)]) (rest := [.int (nI (f 8 (6 * i + 1))), .int (nI w), .int (nI ((f 5) (f 8 (6 * i + 0))))]) hx hb hml hown hts Tg_M (c_X4_fact l D G _ ad n f k b tr i 2 (by omega) (by omega) (by omega)) lk_RX4_147 ⟨rfl, rfl, Nat.le_of_ble_eq_true rfl, Nat.le_of_ble_eq_true rfl⟩ hP hK [0, 3, 4, 5] rfl 0 3 rfl rfl rfl rfl hl rfl (Nat.le_of_ble_eq_true rfl) dX4_drinksIn_23 ⟨Nat.le_of_ble_eq_true rfl, Nat.le_of_ble_eq_true rfl⟩) hS hA (fun locs hS => ?_)
  refine ro_i (roS_run (As := [.int (nI ((f 5) (f 8 (6 * i + 0)))), .int (nI w), .int (nI (f 8 (6 * i + 1))), .int (nI (f 8 (6 * i + 2)))]) (rest := []) hx hb hml hown hts Tg_M (c_X0_drinks l D G _ ((f 5) (f 8 (6 * i + 0))) w (f 8 (6 * i + 1)) (f 8 (6 * i + 2)) (by omega) (by omega) (by omega) (by omega)) lk_RX4_122 ⟨rfl, rfl, Nat.le_of_ble_eq_true rfl, Nat.le_of_ble_eq_true rfl⟩ hP hK [] rfl rfl hl rfl (Nat.le_of_ble_eq_true rfl) dX4_drinksIn_26 ⟨Nat.le_of_ble_eq_true rfl, Nat.le_of_ble_eq_true rfl⟩) hS hA (fun locs hS => ?_)
  exact ro_iret hx hb hr hlocks hS dX4_drinksIn_29 (rfl)

set_option maxHeartbeats 4000000 in
set_option maxRecDepth 100000 in
theorem c_X4_canWeigh (l : Launch) (D : va_G) (G : ClassId × ClassId × ClassId) (H0 : Heap) (ad n : Nat → Nat) (f : Nat → Nat → Nat) (k : Nat → Nat) (b : Nat → Bool) (tr : Int64) (q j w : Nat) (hI : XI n f k q) (hw : w ≤ 60) (hj : j < 2 ^ 31) : Met l yX4_canWeigh (wM yX4_canWeigh cX4_canWeigh 5 (some .boolean)) (rmD 4) (rP D G [.ref (ad 0), .int (nI j), .int (nI w)] [(ad 0, .inr (3, [.ref (ad 1), .ref (ad 10), .ref (ad 12), .ref (ad 14), .ref (ad 16), .ref (ad 21), .ref (ad 26), .int (bI (b 1)), .int (bI (b 2)), .long (tr)])), (ad 12, .inr (2, [.ref (ad 13), .int (nI (n 5))])), (ad 13, .inl (G.1, 6, .inl (nF (f 5)))), (ad 16, .inr (0, [.ref (ad 17), .ref (ad 19), .int (nI (k 5))])), (ad 19, .inr (2, [.ref (ad 20), .int (nI (6 * n 8))])), (ad 20, .inl (G.1, 72, .inl (nF (f 8))))] H0) (rQi (bI (canW f (n 8) j w)) H0) 0 0 (rF H0) := by
  refine ro_start (Qc := fun H0 => (rQi (bI (canW f (n 8) j w)) H0)) (by decide) (Nat.le_of_ble_eq_true rfl) ?_
  intro p e s m args below meth c hx hb hr hts hown hlocks hml hP hK hA hH0 ls hl locs hS
  have hl : lv_has ls 5 [(0, .ref (ad 0)), (1, .int (nI j)), (2, .int (nI w))] := hl
  have hI0 := hI
  obtain ⟨i4, i5, i6, iq, iw, il, i7, i8, ih9, ik, iF⟩ := hI
  refine lv_iconst (v := nI (0)) hx hb dX4_canWeigh_0 (by decide) ?_
  refine lv_istore_n (lv' := [(3, .int (nI 0)), (0, .ref (ad 0)), (1, .int (nI j)), (2, .int (nI w))]) hx hb dX4_canWeigh_1 rfl hl (by decide) rfl (fun ls hl => ?_)
  have loop_1 : ∀ (fuel : Nat) (i : Nat), (i ≤ n 8) → (∀ a, a < i → cwP f j w a) → (n 8 - i) < fuel → ∀ (locs : List Loc), va_S (rF s.heap) s.heap s.heap locs → ∀ (ls : Array Slot), lv_has ls 5 [(0, .ref (ad 0)), (1, .int (nI j)), (2, .int (nI w)), (3, .int (nI i))] → W p l e (rmD 4) s m args below meth c s.heap locs 0 0 (MQ below (rQi (bI (canW f (n 8) j w)) s.heap) args s 0 0 (rF s.heap)) (F0 m 2 ls []) := by
    intro fuel
    induction fuel with
    | zero => intro i hi hp hfu; exact absurd hfu (Nat.not_lt_zero _)
    | succ fuel ih_2 =>
      intro i hi hp hfu locs hS ls hl
      refine lv_iload_n hx hb dX4_canWeigh_2 rfl (lv_at hl 3 rfl) ?_
      refine lv_aload_n hx hb dX4_canWeigh_3 rfl (lv_at hl 0 rfl) ?_
      refine ro_i (roV_run (As := []) (rest := [.int (nI i)]) hx hb hml hown hts Tg_M (c_X4_facts l D G _ ad n f k b tr  (by omega)) lk_RX4_126 ⟨rfl, rfl, Nat.le_of_ble_eq_true rfl, Nat.le_of_ble_eq_true rfl⟩ hP hK [0, 3, 4, 5] rfl 0 3 rfl rfl rfl rfl hl rfl (Nat.le_of_ble_eq_true rfl) dX4_canWeigh_4 ⟨Nat.le_of_ble_eq_true rfl, Nat.le_of_ble_eq_true rfl⟩) hS hA (fun locs hS => ?_)
      refine n_icmp_ge (tgt := 64) hx hb dX4_canWeigh_7 (by decide) (by omega) (by omega) (fun c_7 => ?_) (fun c_7 => ?_)
      · refine lv_iconst (v := nI (1)) hx hb dX4_canWeigh_64 (by decide) ?_
        exact ro_zret hx hb hr hlocks hS dX4_canWeigh_65 (rfl) (bI_of_t (decide_eq_true (fun a ha => hp a (by omega))))
      · have e0 := iF i c_7
        have e1 := il _ e0.1
        have e2 := drk_lt e1 hw (show f 8 (6 * i + 1) ≤ 4096 by omega) e0.2.2.1
        refine lv_aload_n hx hb dX4_canWeigh_10 rfl (lv_at hl 0 rfl) ?_
        refine lv_iload_n hx hb dX4_canWeigh_11 rfl (lv_at hl 3 rfl) ?_
        refine lv_iconst (v := nI (3)) hx hb dX4_canWeigh_12 (by decide) ?_
        refine ro_i (roV_run (As := [.int (nI i), .int (nI 3)]) (rest := []) hx hb hml hown hts Tg_M (c_X4_fact l D G _ ad n f k b tr i 3 (by omega) (by omega) (by omega)) lk_RX4_147 ⟨rfl, rfl, Nat.le_of_ble_eq_true rfl, Nat.le_of_ble_eq_true rfl⟩ hP hK [0, 3, 4, 5] rfl 0 3 rfl rfl rfl rfl hl rfl (Nat.le_of_ble_eq_true rfl) dX4_canWeigh_13 ⟨Nat.le_of_ble_eq_true rfl, Nat.le_of_ble_eq_true rfl⟩) hS hA (fun locs hS => ?_)
        refine lv_iload_n hx hb dX4_canWeigh_16 rfl (lv_at hl 1 rfl) ?_
        refine n_icmp_ne (tgt := 33) hx hb dX4_canWeigh_17 (by decide) (by omega) (by omega) (fun c_17 => ?_) (fun c_17 => ?_)
        · refine lv_iconst (v := nI (0)) hx hb dX4_canWeigh_33 (by decide) ?_
          refine lv_istore (lv' := [(4, .int (nI 0)), (0, .ref (ad 0)), (1, .int (nI j)), (2, .int (nI w)), (3, .int (nI i))]) hx hb dX4_canWeigh_34 hl (by decide) rfl (fun ls hl => ?_)
          refine lv_iload hx hb dX4_canWeigh_36 (lv_at hl 0 rfl) ?_
          refine n_if_eq (tgt := 58) hx hb dX4_canWeigh_38 (by decide) (by omega) (fun c_38 => ?_) (fun c_38 => ?_)
          · refine lv_iinc (v := nI (i + 1)) (lv' := [(3, .int (nI (i + 1))), (4, .int (nI 0)), (0, .ref (ad 0)), (1, .int (nI j)), (2, .int (nI w))]) hx hb dX4_canWeigh_58 hl (k := 4) rfl (nI_inc _ _) (by decide) rfl (fun ls hl => ?_)
            refine lv_goto (tgt := 2) hx hb dX4_canWeigh_61 (by decide) ?_
            exact ih_2 (i + 1) (by omega) (lt_s hp (fun z => absurd z c_17)) (by omega) locs hS _ (lv_sub hl [2, 3, 4, 0] rfl)
          · exact absurd c_38 (by decide)
        · refine lv_aload_n hx hb dX4_canWeigh_20 rfl (lv_at hl 0 rfl) ?_
          refine lv_iload_n hx hb dX4_canWeigh_21 rfl (lv_at hl 3 rfl) ?_
          refine lv_iconst (v := nI (5)) hx hb dX4_canWeigh_22 (by decide) ?_
          refine ro_i (roV_run (As := [.int (nI i), .int (nI 5)]) (rest := []) hx hb hml hown hts Tg_M (c_X4_fact l D G _ ad n f k b tr i 5 (by omega) (by omega) (by omega)) lk_RX4_147 ⟨rfl, rfl, Nat.le_of_ble_eq_true rfl, Nat.le_of_ble_eq_true rfl⟩ hP hK [0, 3, 4, 5] rfl 0 3 rfl rfl rfl rfl hl rfl (Nat.le_of_ble_eq_true rfl) dX4_canWeigh_23 ⟨Nat.le_of_ble_eq_true rfl, Nat.le_of_ble_eq_true rfl⟩) hS hA (fun locs hS => ?_)
          refine n_if_ne (tgt := 33) hx hb dX4_canWeigh_26 (by decide) (by omega) (fun c_26 => ?_) (fun c_26 => ?_)
          · refine lv_iconst (v := nI (0)) hx hb dX4_canWeigh_33 (by decide) ?_
            refine lv_istore (lv' := [(4, .int (nI 0)), (0, .ref (ad 0)), (1, .int (nI j)), (2, .int (nI w)), (3, .int (nI i))]) hx hb dX4_canWeigh_34 hl (by decide) rfl (fun ls hl => ?_)
            refine lv_iload hx hb dX4_canWeigh_36 (lv_at hl 0 rfl) ?_
            refine n_if_eq (tgt := 58) hx hb dX4_canWeigh_38 (by decide) (by omega) (fun c_38 => ?_) (fun c_38 => ?_)
            · refine lv_iinc (v := nI (i + 1)) (lv' := [(3, .int (nI (i + 1))), (4, .int (nI 0)), (0, .ref (ad 0)), (1, .int (nI j)), (2, .int (nI w))]) hx hb dX4_canWeigh_58 hl (k := 4) rfl (nI_inc _ _) (by decide) rfl (fun ls hl => ?_)
              refine lv_goto (tgt := 2) hx hb dX4_canWeigh_61 (by decide) ?_
              exact ih_2 (i + 1) (by omega) (lt_s hp (fun _ z => absurd z c_26)) (by omega) locs hS _ (lv_sub hl [2, 3, 4, 0] rfl)
            · exact absurd c_38 (by decide)
          · refine lv_iconst (v := nI (1)) hx hb dX4_canWeigh_29 (by decide) ?_
            refine lv_goto (tgt := 34) hx hb dX4_canWeigh_30 (by decide) ?_
            refine lv_istore (lv' := [(4, .int (nI 1)), (0, .ref (ad 0)), (1, .int (nI j)), (2, .int (nI w)), (3, .int (nI i))]) hx hb dX4_canWeigh_34 hl (by decide) rfl (fun ls hl => ?_)
            refine lv_iload hx hb dX4_canWeigh_36 (lv_at hl 0 rfl) ?_
            refine n_if_eq (tgt := 58) hx hb dX4_canWeigh_38 (by decide) (by omega) (fun c_38 => ?_) (fun c_38 => ?_)
            · exact absurd c_38 (by decide)
            · refine lv_aload_n hx hb dX4_canWeigh_41 rfl (lv_at hl 1 rfl) ?_
              refine lv_iload_n hx hb dX4_canWeigh_42 rfl (lv_at hl 4 rfl) ?_
              refine lv_iload_n hx hb dX4_canWeigh_43 rfl (lv_at hl 3 rfl) ?_
              refine ro_i (roV_run (As := [.int (nI i), .int (nI w)]) (rest := []) hx hb hml hown hts Tg_M (c_X4_drinksIn l D G _ ad n f k b tr q i w hI0 (by omega) (by omega)) lk_RX4_178 ⟨rfl, rfl, Nat.le_of_ble_eq_true rfl, Nat.le_of_ble_eq_true rfl⟩ hP hK [0, 1, 2, 3, 4, 5] rfl 0 3 rfl rfl rfl rfl hl rfl (Nat.le_of_ble_eq_true rfl) dX4_canWeigh_44 ⟨Nat.le_of_ble_eq_true rfl, Nat.le_of_ble_eq_true rfl⟩) hS hA (fun locs hS => ?_)
              refine lv_aload_n hx hb dX4_canWeigh_47 rfl (lv_at hl 1 rfl) ?_
              refine lv_iload_n hx hb dX4_canWeigh_48 rfl (lv_at hl 4 rfl) ?_
              refine lv_iconst (v := nI (4)) hx hb dX4_canWeigh_49 (by decide) ?_
              refine ro_i (roV_run (As := [.int (nI i), .int (nI 4)]) (rest := [.int (nI (drk (f 5 (f 8 (6 * i + 0))) w (f 8 (6 * i + 1)) (f 8 (6 * i + 2))))]) hx hb hml hown hts Tg_M (c_X4_fact l D G _ ad n f k b tr i 4 (by omega) (by omega) (by omega)) lk_RX4_147 ⟨rfl, rfl, Nat.le_of_ble_eq_true rfl, Nat.le_of_ble_eq_true rfl⟩ hP hK [0, 3, 4, 5] rfl 0 3 rfl rfl rfl rfl hl rfl (Nat.le_of_ble_eq_true rfl) dX4_canWeigh_50 ⟨Nat.le_of_ble_eq_true rfl, Nat.le_of_ble_eq_true rfl⟩) hS hA (fun locs hS => ?_)
              refine n_icmp_eq (tgt := 58) hx hb dX4_canWeigh_53 (by decide) (by omega) (by omega) (fun c_53 => ?_) (fun c_53 => ?_)
              · refine lv_iinc (v := nI (i + 1)) (lv' := [(3, .int (nI (i + 1))), (4, .int (nI 1)), (0, .ref (ad 0)), (1, .int (nI j)), (2, .int (nI w))]) hx hb dX4_canWeigh_58 hl (k := 4) rfl (nI_inc _ _) (by decide) rfl (fun ls hl => ?_)
                refine lv_goto (tgt := 2) hx hb dX4_canWeigh_61 (by decide) ?_
                exact ih_2 (i + 1) (by omega) (lt_s hp (fun _ _ => c_53)) (by omega) locs hS _ (lv_sub hl [2, 3, 4, 0] rfl)
              · refine lv_iconst (v := nI (0)) hx hb dX4_canWeigh_56 (by decide) ?_
                exact ro_zret hx hb hr hlocks hS dX4_canWeigh_57 (rfl) (bI_of_f (decide_eq_false (fun z => absurd (z i (by omega) c_17 c_26) (by omega))))
  exact loop_1 (n 8 - 0 + 1) (0) (Nat.zero_le _) (fun a ha => absurd ha (Nat.not_lt_zero a)) (Nat.lt_succ_self _) locs hS _ (lv_sub hl [1, 2, 3, 0] rfl)

set_option maxHeartbeats 4000000 in
set_option maxRecDepth 100000 in
theorem c_X4_leastOf (l : Launch) (D : va_G) (G : ClassId × ClassId × ClassId) (H0 : Heap) (ad n : Nat → Nat) (f : Nat → Nat → Nat) (k : Nat → Nat) (b : Nat → Bool) (tr : Int64) (q j : Nat) (hI : XI n f k q) (hj : j < 2 ^ 31) : Met l yX4_leastOf (wM yX4_leastOf cX4_leastOf 3 (some .int)) (rmD 5) (rP D G [.ref (ad 0), .int (nI j)] [(ad 0, .inr (3, [.ref (ad 1), .ref (ad 10), .ref (ad 12), .ref (ad 14), .ref (ad 16), .ref (ad 21), .ref (ad 26), .int (bI (b 1)), .int (bI (b 2)), .long (tr)])), (ad 12, .inr (2, [.ref (ad 13), .int (nI (n 5))])), (ad 13, .inl (G.1, 6, .inl (nF (f 5)))), (ad 16, .inr (0, [.ref (ad 17), .ref (ad 19), .int (nI (k 5))])), (ad 19, .inr (2, [.ref (ad 20), .int (nI (6 * n 8))])), (ad 20, .inl (G.1, 72, .inl (nF (f 8))))] H0) (rQi (nI (loP (canW f (n 8) j))) H0) 0 0 (rF H0) := by
  refine ro_start (Qc := fun H0 => (rQi (nI (loP (canW f (n 8) j))) H0)) (by decide) (Nat.le_of_ble_eq_true rfl) ?_
  intro p e s m args below meth c hx hb hr hts hown hlocks hml hP hK hA hH0 ls hl locs hS
  have hl : lv_has ls 3 [(0, .ref (ad 0)), (1, .int (nI j))] := hl
  have hI0 := hI
  refine lv_iconst (v := nI (0)) hx hb dX4_leastOf_0 (by decide) ?_
  refine lv_istore_n (lv' := [(2, .int (nI 0)), (0, .ref (ad 0)), (1, .int (nI j))]) hx hb dX4_leastOf_1 rfl hl (by decide) rfl (fun ls hl => ?_)
  have loop_1 : ∀ (fuel : Nat) (w : Nat), (w ≤ 60) → (upS (canW f (n 8) j) 60 0 = upS (canW f (n 8) j) (60 - w) w) → (60 - w) < fuel → ∀ (locs : List Loc), va_S (rF s.heap) s.heap s.heap locs → ∀ (ls : Array Slot), lv_has ls 3 [(0, .ref (ad 0)), (1, .int (nI j)), (2, .int (nI w))] → W p l e (rmD 5) s m args below meth c s.heap locs 0 0 (MQ below (rQi (nI (loP (canW f (n 8) j))) s.heap) args s 0 0 (rF s.heap)) (F0 m 2 ls []) := by
    intro fuel
    induction fuel with
    | zero => intro w hi hu hfu; exact absurd hfu (Nat.not_lt_zero _)
    | succ fuel ih_2 =>
      intro w hi hu hfu locs hS ls hl
      refine lv_iload_n hx hb dX4_leastOf_2 rfl (lv_at hl 2 rfl) ?_
      refine lv_bipush (v := nI (60)) hx hb dX4_leastOf_3 (by decide) ?_
      refine n_icmp_ge (tgt := 23) hx hb dX4_leastOf_5 (by decide) (by omega) (by omega) (fun c_5 => ?_) (fun c_5 => ?_)
      · refine lv_iload_n hx hb dX4_leastOf_23 rfl (lv_at hl 2 rfl) ?_
        exact ro_iret hx hb hr hlocks hS dX4_leastOf_24 (congrArg nI (by rw [loP, hu, show 60 - w = 0 by omega]; rfl))
      · refine lv_aload_n hx hb dX4_leastOf_8 rfl (lv_at hl 0 rfl) ?_
        refine lv_iload_n hx hb dX4_leastOf_9 rfl (lv_at hl 1 rfl) ?_
        refine lv_iload_n hx hb dX4_leastOf_10 rfl (lv_at hl 2 rfl) ?_
        refine ro_i (roV_run (As := [.int (nI j), .int (nI w)]) (rest := []) hx hb hml hown hts Tg_M (c_X4_canWeigh l D G _ ad n f k b tr q j w hI0 (by omega) (by omega)) lk_RX4_213 ⟨rfl, rfl, Nat.le_of_ble_eq_true rfl, Nat.le_of_ble_eq_true rfl⟩ hP hK [0, 1, 2, 3, 4, 5] rfl 0 3 rfl rfl rfl rfl hl rfl (Nat.le_of_ble_eq_true rfl) dX4_leastOf_11 ⟨Nat.le_of_ble_eq_true rfl, Nat.le_of_ble_eq_true rfl⟩) hS hA (fun locs hS => ?_)
        refine b_if_ne (tgt := 23) hx hb dX4_leastOf_14 (by decide) (fun c_14 => ?_) (fun c_14 => ?_)
        · refine lv_iload_n hx hb dX4_leastOf_23 rfl (lv_at hl 2 rfl) ?_
          exact ro_iret hx hb hr hlocks hS dX4_leastOf_24 (congrArg nI (by rw [loP, hu, upS_t c_14]))
        · refine lv_iinc (v := nI (w + 1)) (lv' := [(2, .int (nI (w + 1))), (0, .ref (ad 0)), (1, .int (nI j))]) hx hb dX4_leastOf_17 hl (k := 2) rfl (nI_inc _ _) (by decide) rfl (fun ls hl => ?_)
          refine lv_goto (tgt := 2) hx hb dX4_leastOf_20 (by decide) ?_
          exact ih_2 (w + 1) (by omega) (by rw [hu, show 60 - w = (60 - (w + 1)) + 1 by omega, upS_f c_14]) (by omega) locs hS _ (lv_sub hl [1, 2, 0] rfl)
  exact loop_1 (60 - 0 + 1) (0) (by omega) (rfl) (Nat.lt_succ_self _) locs hS _ (lv_sub hl [1, 2, 0] rfl)

set_option maxHeartbeats 4000000 in
set_option maxRecDepth 100000 in
theorem c_X4_greatestOf (l : Launch) (D : va_G) (G : ClassId × ClassId × ClassId) (H0 : Heap) (ad n : Nat → Nat) (f : Nat → Nat → Nat) (k : Nat → Nat) (b : Nat → Bool) (tr : Int64) (q j : Nat) (hI : XI n f k q) (hj : j < 2 ^ 31) : Met l yX4_greatestOf (wM yX4_greatestOf cX4_greatestOf 3 (some .int)) (rmD 5) (rP D G [.ref (ad 0), .int (nI j)] [(ad 0, .inr (3, [.ref (ad 1), .ref (ad 10), .ref (ad 12), .ref (ad 14), .ref (ad 16), .ref (ad 21), .ref (ad 26), .int (bI (b 1)), .int (bI (b 2)), .long (tr)])), (ad 12, .inr (2, [.ref (ad 13), .int (nI (n 5))])), (ad 13, .inl (G.1, 6, .inl (nF (f 5)))), (ad 16, .inr (0, [.ref (ad 17), .ref (ad 19), .int (nI (k 5))])), (ad 19, .inr (2, [.ref (ad 20), .int (nI (6 * n 8))])), (ad 20, .inl (G.1, 72, .inl (nF (f 8))))] H0) (rQi (nI (hiP (canW f (n 8) j))) H0) 0 0 (rF H0) := by
  refine ro_start (Qc := fun H0 => (rQi (nI (hiP (canW f (n 8) j))) H0)) (by decide) (Nat.le_of_ble_eq_true rfl) ?_
  intro p e s m args below meth c hx hb hr hts hown hlocks hml hP hK hA hH0 ls hl locs hS
  have hl : lv_has ls 3 [(0, .ref (ad 0)), (1, .int (nI j))] := hl
  have hI0 := hI
  refine lv_bipush (v := nI (60)) hx hb dX4_greatestOf_0 (by decide) ?_
  refine lv_istore_n (lv' := [(2, .int (nI 60)), (0, .ref (ad 0)), (1, .int (nI j))]) hx hb dX4_greatestOf_2 rfl hl (by decide) rfl (fun ls hl => ?_)
  have loop_1 : ∀ (fuel : Nat) (w : Nat), (w ≤ 60) → (dnS (canW f (n 8) j) 60 60 = dnS (canW f (n 8) j) w w) → (w) < fuel → ∀ (locs : List Loc), va_S (rF s.heap) s.heap s.heap locs → ∀ (ls : Array Slot), lv_has ls 3 [(0, .ref (ad 0)), (1, .int (nI j)), (2, .int (nI w))] → W p l e (rmD 5) s m args below meth c s.heap locs 0 0 (MQ below (rQi (nI (hiP (canW f (n 8) j))) s.heap) args s 0 0 (rF s.heap)) (F0 m 3 ls []) := by
    intro fuel
    induction fuel with
    | zero => intro w hi hu hfu; exact absurd hfu (Nat.not_lt_zero _)
    | succ fuel ih_2 =>
      intro w hi hu hfu locs hS ls hl
      refine lv_iload_n hx hb dX4_greatestOf_3 rfl (lv_at hl 2 rfl) ?_
      refine n_if_le (tgt := 22) hx hb dX4_greatestOf_4 (by decide) (by omega) (fun c_4 => ?_) (fun c_4 => ?_)
      · refine lv_iload_n hx hb dX4_greatestOf_22 rfl (lv_at hl 2 rfl) ?_
        exact ro_iret hx hb hr hlocks hS dX4_greatestOf_23 (congrArg nI (by rw [hiP, hu, c_4]; rfl))
      · refine lv_aload_n hx hb dX4_greatestOf_7 rfl (lv_at hl 0 rfl) ?_
        refine lv_iload_n hx hb dX4_greatestOf_8 rfl (lv_at hl 1 rfl) ?_
        refine lv_iload_n hx hb dX4_greatestOf_9 rfl (lv_at hl 2 rfl) ?_
        refine ro_i (roV_run (As := [.int (nI j), .int (nI w)]) (rest := []) hx hb hml hown hts Tg_M (c_X4_canWeigh l D G _ ad n f k b tr q j w hI0 (by omega) (by omega)) lk_RX4_213 ⟨rfl, rfl, Nat.le_of_ble_eq_true rfl, Nat.le_of_ble_eq_true rfl⟩ hP hK [0, 1, 2, 3, 4, 5] rfl 0 3 rfl rfl rfl rfl hl rfl (Nat.le_of_ble_eq_true rfl) dX4_greatestOf_10 ⟨Nat.le_of_ble_eq_true rfl, Nat.le_of_ble_eq_true rfl⟩) hS hA (fun locs hS => ?_)
        refine b_if_ne (tgt := 22) hx hb dX4_greatestOf_13 (by decide) (fun c_13 => ?_) (fun c_13 => ?_)
        · refine lv_iload_n hx hb dX4_greatestOf_22 rfl (lv_at hl 2 rfl) ?_
          exact ro_iret hx hb hr hlocks hS dX4_greatestOf_23 (congrArg nI (by rw [hiP, hu, dnS_t c_13]))
        · refine lv_iinc (v := nI (w - 1)) (lv' := [(2, .int (nI (w - 1))), (0, .ref (ad 0)), (1, .int (nI j))]) hx hb dX4_greatestOf_16 hl (k := 2) rfl (nI_dec (k := 1) (by omega)) (by decide) rfl (fun ls hl => ?_)
          refine lv_goto (tgt := 3) hx hb dX4_greatestOf_19 (by decide) ?_
          exact ih_2 (w - 1) (by omega) (by rw [hu, show w = (w - 1) + 1 by omega, dnS_f (by rw [show w - 1 + 1 = w by omega]; exact c_13)]; rfl) (by omega) locs hS _ (lv_sub hl [1, 2, 0] rfl)
  exact loop_1 (60 + 1) (60) (by omega) (rfl) (Nat.lt_succ_self _) locs hS _ (lv_sub hl [1, 2, 0] rfl)

set_option maxHeartbeats 4000000 in
set_option maxRecDepth 100000 in
theorem c_X4_endOfSpan (l : Launch) (D : va_G) (G : ClassId × ClassId × ClassId) (H0 : Heap) (ad n : Nat → Nat) (f : Nat → Nat → Nat) (k : Nat → Nat) (b : Nat → Bool) (tr : Int64) (law nn fi gr : Nat) (hlaw : law < 3240) (hnn : nn ≤ 4096) (hfg : fi ≤ gr) (hgr : gr ≤ 60) (hk5 : k 5 ≤ 9) : Met l yX4_endOfSpan (wM yX4_endOfSpan cX4_endOfSpan 7 (some .int)) (rmD 3) (rP D G [.ref (ad 0), .int (nI law), .int (nI nn), .int (nI fi), .int (nI gr)] [(ad 0, .inr (3, [.ref (ad 1), .ref (ad 10), .ref (ad 12), .ref (ad 14), .ref (ad 16), .ref (ad 21), .ref (ad 26), .int (bI (b 1)), .int (bI (b 2)), .long (tr)])), (ad 16, .inr (0, [.ref (ad 17), .ref (ad 19), .int (nI (k 5))]))] H0) (rQi (nI (eoS (fun w => drk law w nn (k 5)) (drk law fi nn (k 5)) (gr - fi) fi)) H0) 0 0 (rF H0) := by
  refine ro_start (Qc := fun H0 => (rQi (nI (eoS (fun w => drk law w nn (k 5)) (drk law fi nn (k 5)) (gr - fi) fi)) H0)) (by decide) (Nat.le_of_ble_eq_true rfl) ?_
  intro p e s m args below meth c hx hb hr hts hown hlocks hml hP hK hA hH0 ls hl locs hS
  have hl : lv_has ls 7 [(0, .ref (ad 0)), (1, .int (nI law)), (2, .int (nI nn)), (3, .int (nI fi)), (4, .int (nI gr))] := hl
  refine lv_iload_n hx hb dX4_endOfSpan_0 rfl (lv_at hl 1 rfl) ?_
  refine lv_iload_n hx hb dX4_endOfSpan_1 rfl (lv_at hl 3 rfl) ?_
  refine lv_iload_n hx hb dX4_endOfSpan_2 rfl (lv_at hl 2 rfl) ?_
  refine lv_aload_n hx hb dX4_endOfSpan_3 rfl (lv_at hl 0 rfl) ?_
  refine va_get (D := D) (ci := 3) (v := .ref (ad 16)) (C := RX4) (T := TX4) (N := 10) hx hb hts (iX4) hown hK hP 0 rfl rfl 4 (by decide) (hts _ (List.mem_cons_of_mem _ wt_160)) (fun _ h9 => h9) rfl dX4_endOfSpan_4 ?_
  refine va_get (D := D) (ci := 0) (v := .int (nI (k 5))) (C := RX1) (T := TX1) (N := 3) hx hb hts (iX1) hown hK hP 1 rfl rfl 2 (by decide) (hts _ (List.mem_cons_of_mem _ wt_148)) (fun _ h9 => h9) rfl dX4_endOfSpan_7 ?_
  refine ro_i (roS_run (As := [.int (nI law), .int (nI fi), .int (nI nn), .int (nI (k 5))]) (rest := []) hx hb hml hown hts Tg_M (c_X0_drinks l D G _ law fi nn (k 5) hlaw (by omega) hnn hk5) lk_RX4_122 ⟨rfl, rfl, Nat.le_of_ble_eq_true rfl, Nat.le_of_ble_eq_true rfl⟩ hP hK [] rfl rfl hl rfl (Nat.le_of_ble_eq_true rfl) dX4_endOfSpan_10 ⟨Nat.le_of_ble_eq_true rfl, Nat.le_of_ble_eq_true rfl⟩) hS hA (fun locs hS => ?_)
  refine lv_istore (lv' := [(5, .int (nI (drk law fi nn (k 5)))), (0, .ref (ad 0)), (1, .int (nI law)), (2, .int (nI nn)), (3, .int (nI fi)), (4, .int (nI gr))]) hx hb dX4_endOfSpan_13 hl (by decide) rfl (fun ls hl => ?_)
  refine lv_iload_n hx hb dX4_endOfSpan_15 rfl (lv_at hl 4 rfl) ?_
  refine lv_istore (lv' := [(6, .int (nI fi)), (5, .int (nI (drk law fi nn (k 5)))), (0, .ref (ad 0)), (1, .int (nI law)), (2, .int (nI nn)), (3, .int (nI fi)), (4, .int (nI gr))]) hx hb dX4_endOfSpan_16 hl (by decide) rfl (fun ls hl => ?_)
  have loop_1 : ∀ (fuel : Nat) (w : Nat), (fi ≤ w) → (w ≤ gr) → (eoS (fun w => drk law w nn (k 5)) (drk law fi nn (k 5)) (gr - fi) fi = eoS (fun w => drk law w nn (k 5)) (drk law fi nn (k 5)) (gr - w) w) → (gr - w) < fuel → ∀ (locs : List Loc), va_S (rF s.heap) s.heap s.heap locs → ∀ (ls : Array Slot), lv_has ls 7 [(0, .ref (ad 0)), (1, .int (nI law)), (2, .int (nI nn)), (4, .int (nI gr)), (5, .int (nI (drk law fi nn (k 5)))), (6, .int (nI w))] → W p l e (rmD 3) s m args below meth c s.heap locs 0 0 (MQ below (rQi (nI (eoS (fun w => drk law w nn (k 5)) (drk law fi nn (k 5)) (gr - fi) fi)) s.heap) args s 0 0 (rF s.heap)) (F0 m 18 ls []) := by
    intro fuel
    induction fuel with
    | zero => intro w hi1 hi hu hfu; exact absurd hfu (Nat.not_lt_zero _)
    | succ fuel ih_2 =>
      intro w hi1 hi hu hfu locs hS ls hl
      refine lv_iload hx hb dX4_endOfSpan_18 (lv_at hl 5 rfl) ?_
      refine lv_iload hx hb dX4_endOfSpan_20 (lv_at hl 3 rfl) ?_
      refine n_icmp_ge (tgt := 52) hx hb dX4_endOfSpan_22 (by decide) (by omega) (by omega) (fun c_22 => ?_) (fun c_22 => ?_)
      · refine lv_iload hx hb dX4_endOfSpan_52 (lv_at hl 5 rfl) ?_
        exact ro_iret hx hb hr hlocks hS dX4_endOfSpan_54 (congrArg nI (by rw [hu, show gr - w = 0 by omega]; rfl))
      · refine lv_iload_n hx hb dX4_endOfSpan_25 rfl (lv_at hl 1 rfl) ?_
        refine lv_iload hx hb dX4_endOfSpan_26 (lv_at hl 5 rfl) ?_
        refine lv_iconst (v := nI (1)) hx hb dX4_endOfSpan_28 (by decide) ?_
        refine n_iadd hx hb dX4_endOfSpan_29 ?_
        refine lv_iload_n hx hb dX4_endOfSpan_30 rfl (lv_at hl 2 rfl) ?_
        refine lv_aload_n hx hb dX4_endOfSpan_31 rfl (lv_at hl 0 rfl) ?_
        refine va_get (D := D) (ci := 3) (v := .ref (ad 16)) (C := RX4) (T := TX4) (N := 10) hx hb hts (iX4) hown hK hP 0 rfl rfl 4 (by decide) (hts _ (List.mem_cons_of_mem _ wt_160)) (fun _ h9 => h9) rfl dX4_endOfSpan_32 ?_
        refine va_get (D := D) (ci := 0) (v := .int (nI (k 5))) (C := RX1) (T := TX1) (N := 3) hx hb hts (iX1) hown hK hP 1 rfl rfl 2 (by decide) (hts _ (List.mem_cons_of_mem _ wt_148)) (fun _ h9 => h9) rfl dX4_endOfSpan_35 ?_
        refine ro_i (roS_run (As := [.int (nI law), .int (nI (w + 1)), .int (nI nn), .int (nI (k 5))]) (rest := []) hx hb hml hown hts Tg_M (c_X0_drinks l D G _ law (w + 1) nn (k 5) hlaw (by omega) hnn hk5) lk_RX4_122 ⟨rfl, rfl, Nat.le_of_ble_eq_true rfl, Nat.le_of_ble_eq_true rfl⟩ hP hK [] rfl rfl hl rfl (Nat.le_of_ble_eq_true rfl) dX4_endOfSpan_38 ⟨Nat.le_of_ble_eq_true rfl, Nat.le_of_ble_eq_true rfl⟩) hS hA (fun locs hS => ?_)
        refine lv_iload hx hb dX4_endOfSpan_41 (lv_at hl 4 rfl) ?_
        refine n_icmp_ne (tgt := 52) hx hb dX4_endOfSpan_43 (by decide) (by have := drk_lt (w := w + 1) hlaw (by omega) hnn hk5; omega) (by have := drk_lt (w := fi) hlaw (by omega) hnn hk5; omega) (fun c_43 => ?_) (fun c_43 => ?_)
        · refine lv_iload hx hb dX4_endOfSpan_52 (lv_at hl 5 rfl) ?_
          exact ro_iret hx hb hr hlocks hS dX4_endOfSpan_54 (congrArg nI (by rw [hu, eoS_f (c := (fun w => drk law w nn (k 5))) c_43]))
        · refine lv_iinc (v := nI (w + 1)) (lv' := [(6, .int (nI (w + 1))), (0, .ref (ad 0)), (1, .int (nI law)), (2, .int (nI nn)), (4, .int (nI gr)), (5, .int (nI (drk law fi nn (k 5))))]) hx hb dX4_endOfSpan_46 hl (k := 5) rfl (nI_inc _ _) (by decide) rfl (fun ls hl => ?_)
          refine lv_goto (tgt := 18) hx hb dX4_endOfSpan_49 (by decide) ?_
          exact ih_2 (w + 1) (by omega) (by omega) (by rw [hu, show gr - w = (gr - (w + 1)) + 1 by omega, eoS_t (c := (fun w => drk law w nn (k 5))) c_43]) (by omega) locs hS _ (lv_sub hl [1, 2, 3, 4, 5, 0] rfl)
  exact loop_1 (gr - fi + 1) (fi) (by omega) (by omega) (rfl) (Nat.lt_succ_self _) locs hS _ (lv_sub hl [2, 3, 4, 6, 1, 0] rfl)

set_option maxHeartbeats 4000000 in
set_option maxRecDepth 100000 in
theorem c_X4_leftAtWorst (l : Launch) (D : va_G) (G : ClassId × ClassId × ClassId) (H0 : Heap) (ad n : Nat → Nat) (f : Nat → Nat → Nat) (k : Nat → Nat) (b : Nat → Bool) (tr : Int64) (q t fi gr : Nat) (hI : XI n f k q) (ht : t < n 5) (hfi : fi ≤ 61) (hgr : gr ≤ 60) : Met l yX4_leftAtWorst (wM yX4_leftAtWorst cX4_leftAtWorst 8 (some .int)) (rmD 4) (rP D G [.ref (ad 0), .int (nI t), .int (nI fi), .int (nI gr)] [(ad 0, .inr (3, [.ref (ad 1), .ref (ad 10), .ref (ad 12), .ref (ad 14), .ref (ad 16), .ref (ad 21), .ref (ad 26), .int (bI (b 1)), .int (bI (b 2)), .long (tr)])), (ad 12, .inr (2, [.ref (ad 13), .int (nI (n 5))])), (ad 13, .inl (G.1, 6, .inl (nF (f 5)))), (ad 16, .inr (0, [.ref (ad 17), .ref (ad 19), .int (nI (k 5))])), (ad 17, .inr (2, [.ref (ad 18), .int (nI (n 7))])), (ad 18, .inl (G.1, 6, .inl (nF (f 7))))] H0) (rQi (nI (lwS (fun w => drk (f 5 t) w (f 7 t) (k 5)) gr 61 fi 0)) H0) 0 0 (rF H0) := by
  refine ro_start (Qc := fun H0 => (rQi (nI (lwS (fun w => drk (f 5 t) w (f 7 t) (k 5)) gr 61 fi 0)) H0)) (by decide) (Nat.le_of_ble_eq_true rfl) ?_
  intro p e s m args below meth c hx hb hr hts hown hlocks hml hP hK hA hH0 ls hl locs hS
  have hl : lv_has ls 8 [(0, .ref (ad 0)), (1, .int (nI t)), (2, .int (nI fi)), (3, .int (nI gr))] := hl
  obtain ⟨i4, i5, i6, iq, iw, il, i7, i8, ih9, ik, iF⟩ := hI
  have e1 := il t ht
  have e3 := ik t ht
  refine lv_iconst (v := nI (0)) hx hb dX4_leftAtWorst_0 (by decide) ?_
  refine lv_istore (lv' := [(4, .int (nI 0)), (0, .ref (ad 0)), (1, .int (nI t)), (2, .int (nI fi)), (3, .int (nI gr))]) hx hb dX4_leftAtWorst_1 hl (by decide) rfl (fun ls hl => ?_)
  refine lv_iload_n hx hb dX4_leftAtWorst_3 rfl (lv_at hl 3 rfl) ?_
  refine lv_istore (lv' := [(5, .int (nI fi)), (4, .int (nI 0)), (0, .ref (ad 0)), (1, .int (nI t)), (2, .int (nI fi)), (3, .int (nI gr))]) hx hb dX4_leftAtWorst_4 hl (by decide) rfl (fun ls hl => ?_)
  refine lv_iconst (v := nI (0)) hx hb dX4_leftAtWorst_6 (by decide) ?_
  refine lv_istore (lv' := [(6, .int (nI 0)), (5, .int (nI fi)), (4, .int (nI 0)), (0, .ref (ad 0)), (1, .int (nI t)), (2, .int (nI fi)), (3, .int (nI gr))]) hx hb dX4_leftAtWorst_7 hl (by decide) rfl (fun ls hl => ?_)
  have loop_1 : ∀ (fuel : Nat) (sp : Nat) (fr : Nat) (mo : Nat), (sp ≤ 61) → (fr ≤ 61) → (mo ≤ 61) → (lwS (fun w => drk (f 5 t) w (f 7 t) (k 5)) gr 61 fi 0 = lwS (fun w => drk (f 5 t) w (f 7 t) (k 5)) gr (61 - sp) fr mo) → (61 - sp) < fuel → ∀ (locs : List Loc), va_S (rF s.heap) s.heap s.heap locs → ∀ (ls : Array Slot), lv_has ls 8 [(0, .ref (ad 0)), (1, .int (nI t)), (3, .int (nI gr)), (4, .int (nI mo)), (5, .int (nI fr)), (6, .int (nI sp))] → W p l e (rmD 4) s m args below meth c s.heap locs 0 0 (MQ below (rQi (nI (lwS (fun w => drk (f 5 t) w (f 7 t) (k 5)) gr 61 fi 0)) s.heap) args s 0 0 (rF s.heap)) (F0 m 9 ls []) := by
    intro fuel
    induction fuel with
    | zero => intro sp fr mo hi1 hi2 hi3 hu hfu; exact absurd hfu (Nat.not_lt_zero _)
    | succ fuel ih_2 =>
      intro sp fr mo hi1 hi2 hi3 hu hfu locs hS ls hl
      refine lv_iload hx hb dX4_leftAtWorst_9 (lv_at hl 5 rfl) ?_
      refine lv_bipush (v := nI (60)) hx hb dX4_leftAtWorst_11 (by decide) ?_
      refine n_icmp_gt (tgt := 76) hx hb dX4_leftAtWorst_13 (by decide) (by omega) (by omega) (fun c_13 => ?_) (fun c_13 => ?_)
      · refine lv_iload hx hb dX4_leftAtWorst_76 (lv_at hl 3 rfl) ?_
        exact ro_iret hx hb hr hlocks hS dX4_leftAtWorst_78 (congrArg nI (by rw [hu, show 61 - sp = 0 by omega, lwS]))
      · refine lv_iload hx hb dX4_leftAtWorst_16 (lv_at hl 4 rfl) ?_
        refine lv_iload_n hx hb dX4_leftAtWorst_18 rfl (lv_at hl 2 rfl) ?_
        refine n_icmp_gt (tgt := 76) hx hb dX4_leftAtWorst_19 (by decide) (by omega) (by omega) (fun c_19 => ?_) (fun c_19 => ?_)
        · refine lv_iload hx hb dX4_leftAtWorst_76 (lv_at hl 3 rfl) ?_
          exact ro_iret hx hb hr hlocks hS dX4_leftAtWorst_78 (congrArg nI (by rw [hu, show 61 - sp = (60 - sp) + 1 by omega, lwS, if_neg (by omega)]))
        · have e8 := eoS_in (fun w => drk (f 5 t) w (f 7 t) (k 5)) (drk (f 5 t) fr (f 7 t) (k 5)) (gr - fr) fr
          refine lv_aload_n hx hb dX4_leftAtWorst_22 rfl (lv_at hl 0 rfl) ?_
          refine lv_aload_n hx hb dX4_leftAtWorst_23 rfl (lv_at hl 0 rfl) ?_
          refine va_get (D := D) (ci := 3) (v := .ref (ad 12)) (C := RX4) (T := TX4) (N := 10) hx hb hts (iX4) hown hK hP 0 rfl rfl 2 (by decide) (hts _ (List.mem_cons_of_mem _ wt_158)) (fun _ h9 => h9) rfl dX4_leftAtWorst_24 ?_
          refine lv_iload_n hx hb dX4_leftAtWorst_27 rfl (lv_at hl 1 rfl) ?_
          refine ro_i (roV_run (As := [.int (nI t)]) (rest := [.ref (ad 0)]) hx hb hml hown hts Tg_M (c_X3_at l D G _ (ad 12) (ad 13) 6 (n 5) (f 5) t (by omega) (by omega) (by omega)) lk_RX4_102 ⟨rfl, rfl, Nat.le_of_ble_eq_true rfl, Nat.le_of_ble_eq_true rfl⟩ hP hK [1, 2] rfl 1 2 rfl rfl rfl rfl hl rfl (Nat.le_of_ble_eq_true rfl) dX4_leftAtWorst_28 ⟨Nat.le_of_ble_eq_true rfl, Nat.le_of_ble_eq_true rfl⟩) hS hA (fun locs hS => ?_)
          refine lv_aload_n hx hb dX4_leftAtWorst_31 rfl (lv_at hl 0 rfl) ?_
          refine va_get (D := D) (ci := 3) (v := .ref (ad 16)) (C := RX4) (T := TX4) (N := 10) hx hb hts (iX4) hown hK hP 0 rfl rfl 4 (by decide) (hts _ (List.mem_cons_of_mem _ wt_160)) (fun _ h9 => h9) rfl dX4_leftAtWorst_32 ?_
          refine va_get (D := D) (ci := 0) (v := .ref (ad 17)) (C := RX1) (T := TX1) (N := 3) hx hb hts (iX1) hown hK hP 3 rfl rfl 0 (by decide) (hts _ (List.mem_cons_of_mem _ wt_144)) (fun _ h9 => h9) rfl dX4_leftAtWorst_35 ?_
          refine lv_iload_n hx hb dX4_leftAtWorst_38 rfl (lv_at hl 1 rfl) ?_
          refine ro_i (roV_run (As := [.int (nI t)]) (rest := [.int (nI ((f 5) t)), .ref (ad 0)]) hx hb hml hown hts Tg_M (c_X3_at l D G _ (ad 17) (ad 18) 6 (n 7) (f 7) t (by omega) (by omega) (by omega)) lk_RX4_102 ⟨rfl, rfl, Nat.le_of_ble_eq_true rfl, Nat.le_of_ble_eq_true rfl⟩ hP hK [4, 5] rfl 4 2 rfl rfl rfl rfl hl rfl (Nat.le_of_ble_eq_true rfl) dX4_leftAtWorst_39 ⟨Nat.le_of_ble_eq_true rfl, Nat.le_of_ble_eq_true rfl⟩) hS hA (fun locs hS => ?_)
          refine lv_iload hx hb dX4_leftAtWorst_42 (lv_at hl 4 rfl) ?_
          refine lv_iload_n hx hb dX4_leftAtWorst_44 rfl (lv_at hl 2 rfl) ?_
          refine ro_i (roV_run (As := [.int (nI ((f 5) t)), .int (nI ((f 7) t)), .int (nI fr), .int (nI gr)]) (rest := []) hx hb hml hown hts Tg_M (c_X4_endOfSpan l D G _ ad n f k b tr ((f 5) t) ((f 7) t) fr gr e1 (by omega) (by omega) (by omega) (by omega)) lk_RX4_217 ⟨rfl, rfl, Nat.le_of_ble_eq_true rfl, Nat.le_of_ble_eq_true rfl⟩ hP hK [0, 3] rfl 0 3 rfl rfl rfl rfl hl rfl (Nat.le_of_ble_eq_true rfl) dX4_leftAtWorst_45 ⟨Nat.le_of_ble_eq_true rfl, Nat.le_of_ble_eq_true rfl⟩) hS hA (fun locs hS => ?_)
          refine lv_istore (lv' := [(7, .int (nI (eoS (fun w => drk ((f 5) t) w ((f 7) t) (k 5)) (drk ((f 5) t) fr ((f 7) t) (k 5)) (gr - fr) fr))), (0, .ref (ad 0)), (1, .int (nI t)), (3, .int (nI gr)), (4, .int (nI mo)), (5, .int (nI fr)), (6, .int (nI sp))]) hx hb dX4_leftAtWorst_48 hl (by decide) rfl (fun ls hl => ?_)
          refine lv_iload hx hb dX4_leftAtWorst_50 (lv_at hl 4 rfl) ?_
          refine lv_iload hx hb dX4_leftAtWorst_52 (lv_at hl 0 rfl) ?_
          refine lv_iload hx hb dX4_leftAtWorst_54 (lv_at hl 5 rfl) ?_
          refine n_isub hx hb dX4_leftAtWorst_56 (by omega) ?_
          refine lv_iconst (v := nI (1)) hx hb dX4_leftAtWorst_57 (by decide) ?_
          refine n_iadd hx hb dX4_leftAtWorst_58 ?_
          refine va_mmax hx hb (hml.trans hl.1.symm) hown (hts _ (List.mem_cons_of_mem _ wt_438)) (hts _ (List.mem_cons_of_mem _ wt_84)) (hts _ (List.mem_cons_of_mem _ wt_55)) (hts _ (List.mem_cons_of_mem _ wt_85)) (Nat.le_of_ble_eq_true rfl) (Nat.le_of_ble_eq_true rfl) (Nat.le_of_ble_eq_true rfl) (Nat.le_of_ble_eq_true rfl) dX4_leftAtWorst_59 ?_
          refine n_tope (max_nI (by omega) (by omega)) ?_
          refine lv_istore (lv' := [(4, .int (nI (Nat.max mo (((eoS (fun w => drk ((f 5) t) w ((f 7) t) (k 5)) (drk ((f 5) t) fr ((f 7) t) (k 5)) (gr - fr) fr) - fr) + 1)))), (7, .int (nI (eoS (fun w => drk ((f 5) t) w ((f 7) t) (k 5)) (drk ((f 5) t) fr ((f 7) t) (k 5)) (gr - fr) fr))), (0, .ref (ad 0)), (1, .int (nI t)), (3, .int (nI gr)), (5, .int (nI fr)), (6, .int (nI sp))]) hx hb dX4_leftAtWorst_62 hl (by decide) rfl (fun ls hl => ?_)
          refine lv_iload hx hb dX4_leftAtWorst_64 (lv_at hl 1 rfl) ?_
          refine lv_iconst (v := nI (1)) hx hb dX4_leftAtWorst_66 (by decide) ?_
          refine n_iadd hx hb dX4_leftAtWorst_67 ?_
          refine lv_istore (lv' := [(5, .int (nI ((eoS (fun w => drk ((f 5) t) w ((f 7) t) (k 5)) (drk ((f 5) t) fr ((f 7) t) (k 5)) (gr - fr) fr) + 1))), (4, .int (nI (Nat.max mo (((eoS (fun w => drk ((f 5) t) w ((f 7) t) (k 5)) (drk ((f 5) t) fr ((f 7) t) (k 5)) (gr - fr) fr) - fr) + 1)))), (7, .int (nI (eoS (fun w => drk ((f 5) t) w ((f 7) t) (k 5)) (drk ((f 5) t) fr ((f 7) t) (k 5)) (gr - fr) fr))), (0, .ref (ad 0)), (1, .int (nI t)), (3, .int (nI gr)), (6, .int (nI sp))]) hx hb dX4_leftAtWorst_68 hl (by decide) rfl (fun ls hl => ?_)
          refine lv_iinc (v := nI (sp + 1)) (lv' := [(6, .int (nI (sp + 1))), (5, .int (nI ((eoS (fun w => drk ((f 5) t) w ((f 7) t) (k 5)) (drk ((f 5) t) fr ((f 7) t) (k 5)) (gr - fr) fr) + 1))), (4, .int (nI (Nat.max mo (((eoS (fun w => drk ((f 5) t) w ((f 7) t) (k 5)) (drk ((f 5) t) fr ((f 7) t) (k 5)) (gr - fr) fr) - fr) + 1)))), (7, .int (nI (eoS (fun w => drk ((f 5) t) w ((f 7) t) (k 5)) (drk ((f 5) t) fr ((f 7) t) (k 5)) (gr - fr) fr))), (0, .ref (ad 0)), (1, .int (nI t)), (3, .int (nI gr))]) hx hb dX4_leftAtWorst_70 hl (k := 6) rfl (nI_inc _ _) (by decide) rfl (fun ls hl => ?_)
          refine lv_goto (tgt := 9) hx hb dX4_leftAtWorst_73 (by decide) ?_
          exact ih_2 (sp + 1) (eoS (fun w => drk (f 5 t) w (f 7 t) (k 5)) (drk (f 5 t) fr (f 7 t) (k 5)) (gr - fr) fr + 1) (Nat.max mo (eoS (fun w => drk (f 5 t) w (f 7 t) (k 5)) (drk (f 5 t) fr (f 7 t) (k 5)) (gr - fr) fr - fr + 1)) (by omega) (by omega) (Nat.max_le.mpr ⟨by omega, by omega⟩) (by rw [hu, show 61 - sp = (61 - (sp + 1)) + 1 by omega, lwS, if_pos c_19]) (by omega) locs hS _ (lv_sub hl [4, 5, 6, 2, 1, 0] rfl)
  exact loop_1 (61 - 0 + 1) (0) (fi) (0) (by omega) (by omega) (by omega) (rfl) (Nat.lt_succ_self _) locs hS _ (lv_sub hl [3, 4, 6, 2, 1, 0] rfl)
