set_option maxHeartbeats 4000000 in
set_option maxRecDepth 100000 in
theorem c_X4_plannedLicks (l : Launch) (D : va_G) (G : ClassId × ClassId × ClassId) (H0 : Heap) (plan t : Nat) (hp : plan < 2 ^ 31) (ht : t < 6) : Met l yX4_plannedLicks (wM yX4_plannedLicks cX4_plannedLicks 2 (some .int)) (rmD 1) (rP D G [.int (nI plan), .int (nI t)] [] H0) (rQi (nI (pd plan t)) H0) 0 0 (rF H0) := by
  refine ro_start (Qc := fun H0 => (rQi (nI (pd plan t)) H0)) (by decide) (Nat.le_of_ble_eq_true rfl) ?_
  intro p e s m args below meth c hx hb hr hts hown hlocks hml hP hK hA hH0 ls hl locs hS
  have hl : lv_has ls 2 [(0, .int (nI plan)), (1, .int (nI t))] := hl
  refine lv_iload_n hx hb dX4_plannedLicks_0 rfl (lv_at hl 0 rfl) ?_
  refine lv_iconst (v := nI (2)) hx hb dX4_plannedLicks_1 (by decide) ?_
  refine lv_iload_n hx hb dX4_plannedLicks_2 rfl (lv_at hl 1 rfl) ?_
  refine n_imul hx hb dX4_plannedLicks_3 ?_
  refine n_tope (show nI (2 * t) = nI (2 * t) from rfl) ?_
  refine lv_ishr hx hb dX4_plannedLicks_4 ?_
  refine lv_iconst (v := nI (3)) hx hb dX4_plannedLicks_5 (by decide) ?_
  refine lv_iand hx hb dX4_plannedLicks_6 ?_
  refine n_tope (show ((nI (plan) >>> (nI (2 * t) &&& 31)) &&& nI (3)) = nI (pd plan t) from pd_sh hp ht) ?_
  exact ro_iret hx hb hr hlocks hS dX4_plannedLicks_7 (rfl)

set_option maxHeartbeats 4000000 in
set_option maxRecDepth 100000 in
theorem c_X4_planWith (l : Launch) (D : va_G) (G : ClassId × ClassId × ClassId) (H0 : Heap) (plan t : Nat) (ht : t < 6) : Met l yX4_planWith (wM yX4_planWith cX4_planWith 2 (some .int)) (rmD 1) (rP D G [.int (nI plan), .int (nI t)] [] H0) (rQi (nI (plan + 2 ^ (2 * t))) H0) 0 0 (rF H0) := by
  refine ro_start (Qc := fun H0 => (rQi (nI (plan + 2 ^ (2 * t))) H0)) (by decide) (Nat.le_of_ble_eq_true rfl) ?_
  intro p e s m args below meth c hx hb hr hts hown hlocks hml hP hK hA hH0 ls hl locs hS
  have hl : lv_has ls 2 [(0, .int (nI plan)), (1, .int (nI t))] := hl
  refine lv_iload_n hx hb dX4_planWith_0 rfl (lv_at hl 0 rfl) ?_
  refine lv_iconst (v := nI (1)) hx hb dX4_planWith_1 (by decide) ?_
  refine lv_iconst (v := nI (2)) hx hb dX4_planWith_2 (by decide) ?_
  refine lv_iload_n hx hb dX4_planWith_3 rfl (lv_at hl 1 rfl) ?_
  refine n_imul hx hb dX4_planWith_4 ?_
  refine lv_ishl hx hb dX4_planWith_5 ?_
  refine lv_iadd hx hb dX4_planWith_6 ?_
  refine n_tope (show (nI (plan) + (nI (1) <<< (nI (2 * t) &&& 31))) = nI (plan + 2 ^ (2 * t)) from pd_with ht) ?_
  exact ro_iret hx hb hr hlocks hS dX4_planWith_7 (rfl)

set_option maxHeartbeats 4000000 in
set_option maxRecDepth 100000 in
theorem c_X4_isEnough0 (l : Launch) (D : va_G) (G : ClassId × ClassId × ClassId) (H0 : Heap) (ad n : Nat → Nat) (f : Nat → Nat → Nat) (k : Nat → Nat) (b : Nat → Bool) (tr : Int64) (q lo hi mm plan : Nat) (lk : Nat → Nat) (hI : XI n f k q) (hlo : lo ≤ hi) (hhi : hi ≤ 60) (hm : mm ≤ 61) (hp : plan ≤ (3 - 0) * 1024) (hpd : ∀ u, u < 6 → pd plan u ≤ 3 - 0 ∧ f 7 u + pd plan u = lk u) : Met l yX4_isEnough (wM yX4_isEnough cX4_isEnough 7 (some .boolean)) (rmD 4) (rP D G [.ref (ad 0), .int (nI lo), .int (nI hi), .int (nI mm), .int (nI 0), .int (nI plan)] [(ad 0, .inr (3, [.ref (ad 1), .ref (ad 10), .ref (ad 12), .ref (ad 14), .ref (ad 16), .ref (ad 21), .ref (ad 26), .int (bI (b 1)), .int (bI (b 2)), .long (tr)])), (ad 12, .inr (2, [.ref (ad 13), .int (nI (n 5))])), (ad 13, .inl (G.1, 6, .inl (nF (f 5)))), (ad 16, .inr (0, [.ref (ad 17), .ref (ad 19), .int (nI (k 5))])), (ad 17, .inr (2, [.ref (ad 18), .int (nI (n 7))])), (ad 18, .inl (G.1, 6, .inl (nF (f 7))))] H0) (rQi (bI (enS (n 5) (cS f k) mm 0 lk lo hi)) H0) 0 0 (rF H0) := by
  refine ro_start (Qc := fun H0 => (rQi (bI (enS (n 5) (cS f k) mm 0 lk lo hi)) H0)) (by decide) (Nat.le_of_ble_eq_true rfl) ?_
  intro p e s m args below meth c hx hb hr hts hown hlocks hml hP hK hA hH0 ls hl locs hS
  have hl : lv_has ls 7 [(0, .ref (ad 0)), (1, .int (nI lo)), (2, .int (nI hi)), (3, .int (nI mm)), (4, .int (nI 0)), (5, .int (nI plan))] := hl
  have hI0 := hI
  obtain ⟨i4, i5, i6, iq, iw, il, i7, i8, ih9, ik, iF⟩ := hI
  refine lv_iload_n hx hb dX4_isEnough_0 rfl (lv_at hl 2 rfl) ?_
  refine lv_iload_n hx hb dX4_isEnough_1 rfl (lv_at hl 1 rfl) ?_
  refine n_isub hx hb dX4_isEnough_2 (by omega) ?_
  refine lv_iconst (v := nI (1)) hx hb dX4_isEnough_3 (by decide) ?_
  refine n_iadd hx hb dX4_isEnough_4 ?_
  refine lv_iload_n hx hb dX4_isEnough_5 rfl (lv_at hl 3 rfl) ?_
  refine n_icmp_gt (tgt := 11) hx hb dX4_isEnough_6 (by decide) (by omega) (by omega) (fun c_6 => ?_) (fun c_6 => ?_)
  · refine lv_iload hx hb dX4_isEnough_11 (lv_at hl 4 rfl) ?_
    refine n_if_gt (tgt := 18) hx hb dX4_isEnough_13 (by decide) (by omega) (fun c_13 => ?_) (fun c_13 => ?_)
    · exact absurd c_13 (by decide)
    · refine lv_iconst (v := nI (0)) hx hb dX4_isEnough_16 (by decide) ?_
      exact ro_zret hx hb hr hlocks hS dX4_isEnough_17 (rfl) (bI_of_f (by rw [enS]; exact decide_eq_false (by omega)))
  · refine lv_iconst (v := nI (1)) hx hb dX4_isEnough_9 (by decide) ?_
    exact ro_zret hx hb hr hlocks hS dX4_isEnough_10 (rfl) (bI_of_t (by rw [enS]; exact decide_eq_true c_6))

set_option maxHeartbeats 4000000 in
set_option maxRecDepth 100000 in
theorem c_X4_isEnoughBy1 (l : Launch) (D : va_G) (G : ClassId × ClassId × ClassId) (H0 : Heap) (ad n : Nat → Nat) (f : Nat → Nat → Nat) (k : Nat → Nat) (b : Nat → Bool) (tr : Int64) (t : Nat) (q lo hi mm plan : Nat) (lk : Nat → Nat) (ht : t < n 5) (hI : XI n f k q) (hlo : lo ≤ hi) (hhi : hi ≤ 60) (hm : mm ≤ 61) (hp : plan ≤ (3 - 1) * 1024) (hpd : ∀ u, u < 6 → pd plan u ≤ 3 - 1 ∧ f 7 u + pd plan u = lk u) : Met l yX4_isEnoughBy (wM yX4_isEnoughBy cX4_isEnoughBy 11 (some .boolean)) (rmD 5) (rP D G [.ref (ad 0), .int (nI t), .int (nI lo), .int (nI hi), .int (nI mm), .int (nI 1), .int (nI plan)] [(ad 0, .inr (3, [.ref (ad 1), .ref (ad 10), .ref (ad 12), .ref (ad 14), .ref (ad 16), .ref (ad 21), .ref (ad 26), .int (bI (b 1)), .int (bI (b 2)), .long (tr)])), (ad 12, .inr (2, [.ref (ad 13), .int (nI (n 5))])), (ad 13, .inl (G.1, 6, .inl (nF (f 5)))), (ad 16, .inr (0, [.ref (ad 17), .ref (ad 19), .int (nI (k 5))])), (ad 17, .inr (2, [.ref (ad 18), .int (nI (n 7))])), (ad 18, .inl (G.1, 6, .inl (nF (f 7))))] H0) (rQi (bI (spA (cS f k t (lk t)) hi (fun a e => enS (n 5) (cS f k) mm 0 (va_up lk t (lk t + 1)) a e) 61 lo)) H0) 0 0 (rF H0) := by
  refine ro_start (Qc := fun H0 => (rQi (bI (spA (cS f k t (lk t)) hi (fun a e => enS (n 5) (cS f k) mm 0 (va_up lk t (lk t + 1)) a e) 61 lo)) H0)) (by decide) (Nat.le_of_ble_eq_true rfl) ?_
  intro p e s m args below meth c hx hb hr hts hown hlocks hml hP hK hA hH0 ls hl locs hS
  have hl : lv_has ls 11 [(0, .ref (ad 0)), (1, .int (nI t)), (2, .int (nI lo)), (3, .int (nI hi)), (4, .int (nI mm)), (5, .int (nI 1)), (6, .int (nI plan))] := hl
  have hI0 := hI
  obtain ⟨i4, i5, i6, iq, iw, il, i7, i8, ih9, ik, iF⟩ := hI
  have e1 := il t ht
  have e3 := ik t ht
  have e4 := hpd t (by omega)
  refine lv_aload_n hx hb dX4_isEnoughBy_0 rfl (lv_at hl 0 rfl) ?_
  refine va_get (D := D) (ci := 3) (v := .ref (ad 16)) (C := RX4) (T := TX4) (N := 10) hx hb hts (iX4) hown hK hP 0 rfl rfl 4 (by decide) (hts _ (List.mem_cons_of_mem _ wt_160)) (fun _ h9 => h9) rfl dX4_isEnoughBy_1 ?_
  refine va_get (D := D) (ci := 0) (v := .ref (ad 17)) (C := RX1) (T := TX1) (N := 3) hx hb hts (iX1) hown hK hP 3 rfl rfl 0 (by decide) (hts _ (List.mem_cons_of_mem _ wt_144)) (fun _ h9 => h9) rfl dX4_isEnoughBy_4 ?_
  refine lv_iload_n hx hb dX4_isEnoughBy_7 rfl (lv_at hl 1 rfl) ?_
  refine ro_i (roV_run (As := [.int (nI t)]) (rest := []) hx hb hml hown hts Tg_M (c_X3_at l D G _ (ad 17) (ad 18) 6 (n 7) (f 7) t (by omega) (by omega) (by omega)) lk_RX4_102 ⟨rfl, rfl, Nat.le_of_ble_eq_true rfl, Nat.le_of_ble_eq_true rfl⟩ hP hK [4, 5] rfl 4 2 rfl rfl rfl rfl hl rfl (Nat.le_of_ble_eq_true rfl) dX4_isEnoughBy_8 ⟨Nat.le_of_ble_eq_true rfl, Nat.le_of_ble_eq_true rfl⟩) hS hA (fun locs hS => ?_)
  refine lv_iload hx hb dX4_isEnoughBy_11 (lv_at hl 6 rfl) ?_
  refine lv_iload_n hx hb dX4_isEnoughBy_13 rfl (lv_at hl 1 rfl) ?_
  refine ro_i (roS_run (As := [.int (nI plan), .int (nI t)]) (rest := [.int (nI ((f 7) t))]) hx hb hml hown hts Tg_M (c_X4_plannedLicks l D G _ plan t (by omega) (by omega)) lk_RX4_224 ⟨rfl, rfl, Nat.le_of_ble_eq_true rfl, Nat.le_of_ble_eq_true rfl⟩ hP hK [] rfl rfl hl rfl (Nat.le_of_ble_eq_true rfl) dX4_isEnoughBy_14 ⟨Nat.le_of_ble_eq_true rfl, Nat.le_of_ble_eq_true rfl⟩) hS hA (fun locs hS => ?_)
  refine n_iadd hx hb dX4_isEnoughBy_17 ?_
  refine n_tope (show nI (((f 7) t) + (pd plan t)) = nI (lk t) from congrArg nI e4.2) ?_
  refine lv_istore (lv' := [(7, .int (nI (lk t))), (0, .ref (ad 0)), (1, .int (nI t)), (2, .int (nI lo)), (3, .int (nI hi)), (4, .int (nI mm)), (5, .int (nI 1)), (6, .int (nI plan))]) hx hb dX4_isEnoughBy_18 hl (by decide) rfl (fun ls hl => ?_)
  refine lv_iload_n hx hb dX4_isEnoughBy_20 rfl (lv_at hl 3 rfl) ?_
  refine lv_istore (lv' := [(8, .int (nI lo)), (7, .int (nI (lk t))), (0, .ref (ad 0)), (1, .int (nI t)), (2, .int (nI lo)), (3, .int (nI hi)), (4, .int (nI mm)), (5, .int (nI 1)), (6, .int (nI plan))]) hx hb dX4_isEnoughBy_21 hl (by decide) rfl (fun ls hl => ?_)
  refine lv_iconst (v := nI (0)) hx hb dX4_isEnoughBy_23 (by decide) ?_
  refine lv_istore (lv' := [(9, .int (nI 0)), (8, .int (nI lo)), (7, .int (nI (lk t))), (0, .ref (ad 0)), (1, .int (nI t)), (2, .int (nI lo)), (3, .int (nI hi)), (4, .int (nI mm)), (5, .int (nI 1)), (6, .int (nI plan))]) hx hb dX4_isEnoughBy_24 hl (by decide) rfl (fun ls hl => ?_)
  have loop_1 : ∀ (fuel : Nat) (sp : Nat) (fr : Nat), (sp ≤ 61) → (fr ≤ 61) → (spA (cS f k t (lk t)) hi (fun a e => enS (n 5) (cS f k) mm 0 (va_up lk t (lk t + 1)) a e) 61 lo = spA (cS f k t (lk t)) hi (fun a e => enS (n 5) (cS f k) mm 0 (va_up lk t (lk t + 1)) a e) (61 - sp) fr) → (61 - sp) < fuel → ∀ (locs : List Loc), va_S (rF s.heap) s.heap s.heap locs → ∀ (ls : Array Slot), lv_has ls 11 [(0, .ref (ad 0)), (1, .int (nI t)), (3, .int (nI hi)), (4, .int (nI mm)), (5, .int (nI 1)), (6, .int (nI plan)), (7, .int (nI (lk t))), (8, .int (nI fr)), (9, .int (nI sp))] → W p l e (rmD 5) s m args below meth c s.heap locs 0 0 (MQ below (rQi (bI (spA (cS f k t (lk t)) hi (fun a e => enS (n 5) (cS f k) mm 0 (va_up lk t (lk t + 1)) a e) 61 lo)) s.heap) args s 0 0 (rF s.heap)) (F0 m 26 ls []) := by
    intro fuel
    induction fuel with
    | zero => intro sp fr hi1 hi2 hu hfu; exact absurd hfu (Nat.not_lt_zero _)
    | succ fuel ih_2 =>
      intro sp fr hi1 hi2 hu hfu locs hS ls hl
      refine lv_iload hx hb dX4_isEnoughBy_26 (lv_at hl 8 rfl) ?_
      refine lv_bipush (v := nI (60)) hx hb dX4_isEnoughBy_28 (by decide) ?_
      refine n_icmp_gt (tgt := 95) hx hb dX4_isEnoughBy_30 (by decide) (by omega) (by omega) (fun c_30 => ?_) (fun c_30 => ?_)
      · refine lv_iconst (v := nI (1)) hx hb dX4_isEnoughBy_95 (by decide) ?_
        exact ro_zret hx hb hr hlocks hS dX4_isEnoughBy_96 (rfl) (bI_of_t (by rw [hu, show 61 - sp = 0 by omega, spA]))
      · refine lv_iload hx hb dX4_isEnoughBy_33 (lv_at hl 7 rfl) ?_
        refine lv_iload_n hx hb dX4_isEnoughBy_35 rfl (lv_at hl 2 rfl) ?_
        refine n_icmp_gt (tgt := 95) hx hb dX4_isEnoughBy_36 (by decide) (by omega) (by omega) (fun c_36 => ?_) (fun c_36 => ?_)
        · refine lv_iconst (v := nI (1)) hx hb dX4_isEnoughBy_95 (by decide) ?_
          exact ro_zret hx hb hr hlocks hS dX4_isEnoughBy_96 (rfl) (bI_of_t (by rw [hu, show 61 - sp = (60 - sp) + 1 by omega, spA, if_neg (by omega)]))
        · refine lv_aload_n hx hb dX4_isEnoughBy_39 rfl (lv_at hl 0 rfl) ?_
          refine lv_aload_n hx hb dX4_isEnoughBy_40 rfl (lv_at hl 0 rfl) ?_
          refine va_get (D := D) (ci := 3) (v := .ref (ad 12)) (C := RX4) (T := TX4) (N := 10) hx hb hts (iX4) hown hK hP 0 rfl rfl 2 (by decide) (hts _ (List.mem_cons_of_mem _ wt_158)) (fun _ h9 => h9) rfl dX4_isEnoughBy_41 ?_
          refine lv_iload_n hx hb dX4_isEnoughBy_44 rfl (lv_at hl 1 rfl) ?_
          refine ro_i (roV_run (As := [.int (nI t)]) (rest := [.ref (ad 0)]) hx hb hml hown hts Tg_M (c_X3_at l D G _ (ad 12) (ad 13) 6 (n 5) (f 5) t (by omega) (by omega) (by omega)) lk_RX4_102 ⟨rfl, rfl, Nat.le_of_ble_eq_true rfl, Nat.le_of_ble_eq_true rfl⟩ hP hK [1, 2] rfl 1 2 rfl rfl rfl rfl hl rfl (Nat.le_of_ble_eq_true rfl) dX4_isEnoughBy_45 ⟨Nat.le_of_ble_eq_true rfl, Nat.le_of_ble_eq_true rfl⟩) hS hA (fun locs hS => ?_)
          refine lv_iload hx hb dX4_isEnoughBy_48 (lv_at hl 6 rfl) ?_
          refine lv_iload hx hb dX4_isEnoughBy_50 (lv_at hl 7 rfl) ?_
          refine lv_iload_n hx hb dX4_isEnoughBy_52 rfl (lv_at hl 2 rfl) ?_
          have e8 := eoS_in (fun w => drk (f 5 t) w (lk t) (k 5)) (drk (f 5 t) fr (lk t) (k 5)) (hi - fr) fr
          refine ro_i (roV_run (As := [.int (nI ((f 5) t)), .int (nI (lk t)), .int (nI fr), .int (nI hi)]) (rest := []) hx hb hml hown hts Tg_M (c_X4_endOfSpan l D G _ ad n f k b tr ((f 5) t) (lk t) fr hi e1 (by omega) (by omega) (by omega) (by omega)) lk_RX4_217 ⟨rfl, rfl, Nat.le_of_ble_eq_true rfl, Nat.le_of_ble_eq_true rfl⟩ hP hK [0, 3] rfl 0 3 rfl rfl rfl rfl hl rfl (Nat.le_of_ble_eq_true rfl) dX4_isEnoughBy_53 ⟨Nat.le_of_ble_eq_true rfl, Nat.le_of_ble_eq_true rfl⟩) hS hA (fun locs hS => ?_)
          refine lv_istore (lv' := [(10, .int (nI (eoS (fun w => drk (f 5 t) w (lk t) (k 5)) (drk (f 5 t) fr (lk t) (k 5)) (hi - fr) fr))), (0, .ref (ad 0)), (1, .int (nI t)), (3, .int (nI hi)), (4, .int (nI mm)), (5, .int (nI 1)), (6, .int (nI plan)), (7, .int (nI (lk t))), (8, .int (nI fr)), (9, .int (nI sp))]) hx hb dX4_isEnoughBy_56 hl (by decide) rfl (fun ls hl => ?_)
          refine lv_aload_n hx hb dX4_isEnoughBy_58 rfl (lv_at hl 1 rfl) ?_
          refine lv_iload hx hb dX4_isEnoughBy_59 (lv_at hl 8 rfl) ?_
          refine lv_iload hx hb dX4_isEnoughBy_61 (lv_at hl 0 rfl) ?_
          refine lv_iload hx hb dX4_isEnoughBy_63 (lv_at hl 4 rfl) ?_
          refine lv_iload hx hb dX4_isEnoughBy_65 (lv_at hl 5 rfl) ?_
          refine lv_iconst (v := nI (1)) hx hb dX4_isEnoughBy_67 (by decide) ?_
          refine n_isub hx hb dX4_isEnoughBy_68 (by omega) ?_
          refine n_tope (show nI (1 - 1) = nI (0) from rfl) ?_
          refine lv_iload hx hb dX4_isEnoughBy_69 (lv_at hl 6 rfl) ?_
          refine lv_iload_n hx hb dX4_isEnoughBy_71 rfl (lv_at hl 2 rfl) ?_
          refine ro_i (roS_run (As := [.int (nI plan), .int (nI t)]) (rest := [.int (nI 0), .int (nI mm), .int (nI (eoS (fun w => drk (f 5 t) w (lk t) (k 5)) (drk (f 5 t) fr (lk t) (k 5)) (hi - fr) fr)), .int (nI fr), .ref (ad 0)]) hx hb hml hown hts Tg_M (c_X4_planWith l D G _ plan t (by omega)) lk_RX4_227 ⟨rfl, rfl, Nat.le_of_ble_eq_true rfl, Nat.le_of_ble_eq_true rfl⟩ hP hK [] rfl rfl hl rfl (Nat.le_of_ble_eq_true rfl) dX4_isEnoughBy_72 ⟨Nat.le_of_ble_eq_true rfl, Nat.le_of_ble_eq_true rfl⟩) hS hA (fun locs hS => ?_)
          refine ro_i (roV_run (As := [.int (nI fr), .int (nI (eoS (fun w => drk (f 5 t) w (lk t) (k 5)) (drk (f 5 t) fr (lk t) (k 5)) (hi - fr) fr)), .int (nI mm), .int (nI 0), .int (nI (plan + 2 ^ (2 * t)))]) (rest := []) hx hb hml hown hts Tg_M (c_X4_isEnough0 l D G _ ad n f k b tr q fr (eoS (fun w => drk (f 5 t) w (lk t) (k 5)) (drk (f 5 t) fr (lk t) (k 5)) (hi - fr) fr) mm (plan + 2 ^ (2 * t)) (va_up lk t (lk t + 1)) hI0 (by omega) (by omega) (by omega) (by have := pd_lt (t := t) (by omega); omega) (en_plan (by omega) (by decide) hpd)) lk_RX4_165 ⟨rfl, rfl, Nat.le_of_ble_eq_true rfl, Nat.le_of_ble_eq_true rfl⟩ hP hK [0, 1, 2, 3, 4, 5] rfl 0 3 rfl rfl rfl rfl hl rfl (Nat.le_of_ble_eq_true rfl) dX4_isEnoughBy_75 ⟨Nat.le_of_ble_eq_true rfl, Nat.le_of_ble_eq_true rfl⟩) hS hA (fun locs hS => ?_)
          refine b_if_ne (tgt := 83) hx hb dX4_isEnoughBy_78 (by decide) (fun c_78 => ?_) (fun c_78 => ?_)
          · refine lv_iload hx hb dX4_isEnoughBy_83 (lv_at hl 0 rfl) ?_
            refine lv_iconst (v := nI (1)) hx hb dX4_isEnoughBy_85 (by decide) ?_
            refine n_iadd hx hb dX4_isEnoughBy_86 ?_
            refine lv_istore (lv' := [(8, .int (nI ((eoS (fun w => drk (f 5 t) w (lk t) (k 5)) (drk (f 5 t) fr (lk t) (k 5)) (hi - fr) fr) + 1))), (10, .int (nI (eoS (fun w => drk (f 5 t) w (lk t) (k 5)) (drk (f 5 t) fr (lk t) (k 5)) (hi - fr) fr))), (0, .ref (ad 0)), (1, .int (nI t)), (3, .int (nI hi)), (4, .int (nI mm)), (5, .int (nI 1)), (6, .int (nI plan)), (7, .int (nI (lk t))), (9, .int (nI sp))]) hx hb dX4_isEnoughBy_87 hl (by decide) rfl (fun ls hl => ?_)
            refine lv_iinc (v := nI (sp + 1)) (lv' := [(9, .int (nI (sp + 1))), (8, .int (nI ((eoS (fun w => drk (f 5 t) w (lk t) (k 5)) (drk (f 5 t) fr (lk t) (k 5)) (hi - fr) fr) + 1))), (10, .int (nI (eoS (fun w => drk (f 5 t) w (lk t) (k 5)) (drk (f 5 t) fr (lk t) (k 5)) (hi - fr) fr))), (0, .ref (ad 0)), (1, .int (nI t)), (3, .int (nI hi)), (4, .int (nI mm)), (5, .int (nI 1)), (6, .int (nI plan)), (7, .int (nI (lk t)))]) hx hb dX4_isEnoughBy_89 hl (k := 9) rfl (nI_inc _ _) (by decide) rfl (fun ls hl => ?_)
            refine lv_goto (tgt := 26) hx hb dX4_isEnoughBy_92 (by decide) ?_
            exact ih_2 (sp + 1) (eoS (fun w => drk (f 5 t) w (lk t) (k 5)) (drk (f 5 t) fr (lk t) (k 5)) (hi - fr) fr + 1) (by omega) (by omega) (by rw [hu, show 61 - sp = (61 - (sp + 1)) + 1 by omega, spA, if_pos c_36]; exact (congrArg (· && _) c_78).trans (Bool.true_and _)) (by omega) locs hS _ (lv_sub hl [3, 4, 5, 6, 7, 8, 9, 1, 0] rfl)
          · refine lv_iconst (v := nI (0)) hx hb dX4_isEnoughBy_81 (by decide) ?_
            exact ro_zret hx hb hr hlocks hS dX4_isEnoughBy_82 (rfl) (bI_of_f (by rw [hu, show 61 - sp = (60 - sp) + 1 by omega, spA, if_pos c_36]; exact (congrArg (· && _) c_78).trans (Bool.false_and _)))
  exact loop_1 (61 - 0 + 1) (0) (lo) (by omega) (by omega) (rfl) (Nat.lt_succ_self _) locs hS _ (lv_sub hl [3, 4, 6, 7, 8, 9, 2, 1, 0] rfl)

set_option maxHeartbeats 4000000 in
set_option maxRecDepth 100000 in
theorem c_X4_isEnough1 (l : Launch) (D : va_G) (G : ClassId × ClassId × ClassId) (H0 : Heap) (ad n : Nat → Nat) (f : Nat → Nat → Nat) (k : Nat → Nat) (b : Nat → Bool) (tr : Int64) (q lo hi mm plan : Nat) (lk : Nat → Nat) (hI : XI n f k q) (hlo : lo ≤ hi) (hhi : hi ≤ 60) (hm : mm ≤ 61) (hp : plan ≤ (3 - 1) * 1024) (hpd : ∀ u, u < 6 → pd plan u ≤ 3 - 1 ∧ f 7 u + pd plan u = lk u) : Met l yX4_isEnough (wM yX4_isEnough cX4_isEnough 7 (some .boolean)) (rmD 6) (rP D G [.ref (ad 0), .int (nI lo), .int (nI hi), .int (nI mm), .int (nI 1), .int (nI plan)] [(ad 0, .inr (3, [.ref (ad 1), .ref (ad 10), .ref (ad 12), .ref (ad 14), .ref (ad 16), .ref (ad 21), .ref (ad 26), .int (bI (b 1)), .int (bI (b 2)), .long (tr)])), (ad 12, .inr (2, [.ref (ad 13), .int (nI (n 5))])), (ad 13, .inl (G.1, 6, .inl (nF (f 5)))), (ad 16, .inr (0, [.ref (ad 17), .ref (ad 19), .int (nI (k 5))])), (ad 17, .inr (2, [.ref (ad 18), .int (nI (n 7))])), (ad 18, .inl (G.1, 6, .inl (nF (f 7))))] H0) (rQi (bI (enS (n 5) (cS f k) mm 1 lk lo hi)) H0) 0 0 (rF H0) := by
  refine ro_start (Qc := fun H0 => (rQi (bI (enS (n 5) (cS f k) mm 1 lk lo hi)) H0)) (by decide) (Nat.le_of_ble_eq_true rfl) ?_
  intro p e s m args below meth c hx hb hr hts hown hlocks hml hP hK hA hH0 ls hl locs hS
  have hl : lv_has ls 7 [(0, .ref (ad 0)), (1, .int (nI lo)), (2, .int (nI hi)), (3, .int (nI mm)), (4, .int (nI 1)), (5, .int (nI plan))] := hl
  have hI0 := hI
  obtain ⟨i4, i5, i6, iq, iw, il, i7, i8, ih9, ik, iF⟩ := hI
  refine lv_iload_n hx hb dX4_isEnough_0 rfl (lv_at hl 2 rfl) ?_
  refine lv_iload_n hx hb dX4_isEnough_1 rfl (lv_at hl 1 rfl) ?_
  refine n_isub hx hb dX4_isEnough_2 (by omega) ?_
  refine lv_iconst (v := nI (1)) hx hb dX4_isEnough_3 (by decide) ?_
  refine n_iadd hx hb dX4_isEnough_4 ?_
  refine lv_iload_n hx hb dX4_isEnough_5 rfl (lv_at hl 3 rfl) ?_
  refine n_icmp_gt (tgt := 11) hx hb dX4_isEnough_6 (by decide) (by omega) (by omega) (fun c_6 => ?_) (fun c_6 => ?_)
  · refine lv_iload hx hb dX4_isEnough_11 (lv_at hl 4 rfl) ?_
    refine n_if_gt (tgt := 18) hx hb dX4_isEnough_13 (by decide) (by omega) (fun c_13 => ?_) (fun c_13 => ?_)
    · refine lv_iconst (v := nI (0)) hx hb dX4_isEnough_18 (by decide) ?_
      refine lv_istore (lv' := [(6, .int (nI 0)), (0, .ref (ad 0)), (1, .int (nI lo)), (2, .int (nI hi)), (3, .int (nI mm)), (4, .int (nI 1)), (5, .int (nI plan))]) hx hb dX4_isEnough_19 hl (by decide) rfl (fun ls hl => ?_)
      have loop_1 : ∀ (fuel : Nat) (t : Nat), (t ≤ n 5) → (∀ u, u < t → spA (cS f k u (lk u)) hi (fun a e => enS (n 5) (cS f k) mm 0 (va_up lk u (lk u + 1)) a e) 61 lo = false) → (n 5 - t) < fuel → ∀ (locs : List Loc), va_S (rF s.heap) s.heap s.heap locs → ∀ (ls : Array Slot), lv_has ls 7 [(0, .ref (ad 0)), (1, .int (nI lo)), (2, .int (nI hi)), (3, .int (nI mm)), (4, .int (nI 1)), (5, .int (nI plan)), (6, .int (nI t))] → W p l e (rmD 6) s m args below meth c s.heap locs 0 0 (MQ below (rQi (bI (enS (n 5) (cS f k) mm 1 lk lo hi)) s.heap) args s 0 0 (rF s.heap)) (F0 m 21 ls []) := by
        intro fuel
        induction fuel with
        | zero => intro t hi1 ha hfu; exact absurd hfu (Nat.not_lt_zero _)
        | succ fuel ih_2 =>
          intro t hi1 ha hfu locs hS ls hl
          refine lv_iload hx hb dX4_isEnough_21 (lv_at hl 6 rfl) ?_
          refine lv_aload_n hx hb dX4_isEnough_23 rfl (lv_at hl 0 rfl) ?_
          refine va_get (D := D) (ci := 3) (v := .ref (ad 12)) (C := RX4) (T := TX4) (N := 10) hx hb hts (iX4) hown hK hP 0 rfl rfl 2 (by decide) (hts _ (List.mem_cons_of_mem _ wt_158)) (fun _ h9 => h9) rfl dX4_isEnough_24 ?_
          refine ro_i (roV_run (As := []) (rest := [.int (nI t)]) hx hb hml hown hts Tg_M (c_X3_size l D G _ (ad 12) (ad 13) 6 (n 5) (f 5)) lk_RX4_62 ⟨rfl, rfl, Nat.le_of_ble_eq_true rfl, Nat.le_of_ble_eq_true rfl⟩ hP hK [1, 2] rfl 1 2 rfl rfl rfl rfl hl rfl (Nat.le_of_ble_eq_true rfl) dX4_isEnough_27 ⟨Nat.le_of_ble_eq_true rfl, Nat.le_of_ble_eq_true rfl⟩) hS hA (fun locs hS => ?_)
          refine n_icmp_ge (tgt := 57) hx hb dX4_isEnough_30 (by decide) (by omega) (by omega) (fun c_30 => ?_) (fun c_30 => ?_)
          · refine lv_iconst (v := nI (0)) hx hb dX4_isEnough_57 (by decide) ?_
            exact ro_zret hx hb hr hlocks hS dX4_isEnough_58 (rfl) (bI_of_f (by rw [enS, decide_eq_false (by omega), Bool.false_or]; exact decide_eq_false (fun ⟨u, h1, h2⟩ => absurd ((ha u (by omega)).symm.trans h2) (by decide))))
          · refine lv_aload_n hx hb dX4_isEnough_33 rfl (lv_at hl 0 rfl) ?_
            refine lv_iload hx hb dX4_isEnough_34 (lv_at hl 6 rfl) ?_
            refine lv_iload_n hx hb dX4_isEnough_36 rfl (lv_at hl 1 rfl) ?_
            refine lv_iload_n hx hb dX4_isEnough_37 rfl (lv_at hl 2 rfl) ?_
            refine lv_iload_n hx hb dX4_isEnough_38 rfl (lv_at hl 3 rfl) ?_
            refine lv_iload hx hb dX4_isEnough_39 (lv_at hl 4 rfl) ?_
            refine lv_iload hx hb dX4_isEnough_41 (lv_at hl 5 rfl) ?_
            refine ro_i (roV_run (As := [.int (nI t), .int (nI lo), .int (nI hi), .int (nI mm), .int (nI 1), .int (nI plan)]) (rest := []) hx hb hml hown hts Tg_M (c_X4_isEnoughBy1 l D G _ ad n f k b tr t q lo hi mm plan lk c_30 hI0 hlo hhi hm hp hpd) lk_RX4_220 ⟨rfl, rfl, Nat.le_of_ble_eq_true rfl, Nat.le_of_ble_eq_true rfl⟩ hP hK [0, 1, 2, 3, 4, 5] rfl 0 3 rfl rfl rfl rfl hl rfl (Nat.le_of_ble_eq_true rfl) dX4_isEnough_43 ⟨Nat.le_of_ble_eq_true rfl, Nat.le_of_ble_eq_true rfl⟩) hS hA (fun locs hS => ?_)
            refine b_if_eq (tgt := 51) hx hb dX4_isEnough_46 (by decide) (fun c_46 => ?_) (fun c_46 => ?_)
            · refine lv_iinc (v := nI (t + 1)) (lv' := [(6, .int (nI (t + 1))), (0, .ref (ad 0)), (1, .int (nI lo)), (2, .int (nI hi)), (3, .int (nI mm)), (4, .int (nI 1)), (5, .int (nI plan))]) hx hb dX4_isEnough_51 hl (k := 6) rfl (nI_inc _ _) (by decide) rfl (fun ls hl => ?_)
              refine lv_goto (tgt := 21) hx hb dX4_isEnough_54 (by decide) ?_
              exact ih_2 (t + 1) (by omega) (lt_s ha c_46) (by omega) locs hS _ (lv_sub hl [1, 2, 3, 4, 5, 6, 0] rfl)
            · refine lv_iconst (v := nI (1)) hx hb dX4_isEnough_49 (by decide) ?_
              exact ro_zret hx hb hr hlocks hS dX4_isEnough_50 (rfl) (bI_of_t (by rw [enS, show anyB (n 5) _ = true from decide_eq_true ⟨t, c_30, c_46⟩, Bool.or_true]))
      exact loop_1 (n 5 - 0 + 1) (0) (by omega) (fun u hu => absurd hu (Nat.not_lt_zero u)) (Nat.lt_succ_self _) locs hS _ (lv_sub hl [1, 2, 3, 4, 5, 6, 0] rfl)
    · exact absurd c_13 (by decide)
  · refine lv_iconst (v := nI (1)) hx hb dX4_isEnough_9 (by decide) ?_
    exact ro_zret hx hb hr hlocks hS dX4_isEnough_10 (rfl) (bI_of_t (by rw [enS, decide_eq_true c_6]; rfl))

set_option maxHeartbeats 4000000 in
set_option maxRecDepth 100000 in
theorem c_X4_isEnoughBy2 (l : Launch) (D : va_G) (G : ClassId × ClassId × ClassId) (H0 : Heap) (ad n : Nat → Nat) (f : Nat → Nat → Nat) (k : Nat → Nat) (b : Nat → Bool) (tr : Int64) (t : Nat) (q lo hi mm plan : Nat) (lk : Nat → Nat) (ht : t < n 5) (hI : XI n f k q) (hlo : lo ≤ hi) (hhi : hi ≤ 60) (hm : mm ≤ 61) (hp : plan ≤ (3 - 2) * 1024) (hpd : ∀ u, u < 6 → pd plan u ≤ 3 - 2 ∧ f 7 u + pd plan u = lk u) : Met l yX4_isEnoughBy (wM yX4_isEnoughBy cX4_isEnoughBy 11 (some .boolean)) (rmD 7) (rP D G [.ref (ad 0), .int (nI t), .int (nI lo), .int (nI hi), .int (nI mm), .int (nI 2), .int (nI plan)] [(ad 0, .inr (3, [.ref (ad 1), .ref (ad 10), .ref (ad 12), .ref (ad 14), .ref (ad 16), .ref (ad 21), .ref (ad 26), .int (bI (b 1)), .int (bI (b 2)), .long (tr)])), (ad 12, .inr (2, [.ref (ad 13), .int (nI (n 5))])), (ad 13, .inl (G.1, 6, .inl (nF (f 5)))), (ad 16, .inr (0, [.ref (ad 17), .ref (ad 19), .int (nI (k 5))])), (ad 17, .inr (2, [.ref (ad 18), .int (nI (n 7))])), (ad 18, .inl (G.1, 6, .inl (nF (f 7))))] H0) (rQi (bI (spA (cS f k t (lk t)) hi (fun a e => enS (n 5) (cS f k) mm 1 (va_up lk t (lk t + 1)) a e) 61 lo)) H0) 0 0 (rF H0) := by
  refine ro_start (Qc := fun H0 => (rQi (bI (spA (cS f k t (lk t)) hi (fun a e => enS (n 5) (cS f k) mm 1 (va_up lk t (lk t + 1)) a e) 61 lo)) H0)) (by decide) (Nat.le_of_ble_eq_true rfl) ?_
  intro p e s m args below meth c hx hb hr hts hown hlocks hml hP hK hA hH0 ls hl locs hS
  have hl : lv_has ls 11 [(0, .ref (ad 0)), (1, .int (nI t)), (2, .int (nI lo)), (3, .int (nI hi)), (4, .int (nI mm)), (5, .int (nI 2)), (6, .int (nI plan))] := hl
  have hI0 := hI
  obtain ⟨i4, i5, i6, iq, iw, il, i7, i8, ih9, ik, iF⟩ := hI
  have e1 := il t ht
  have e3 := ik t ht
  have e4 := hpd t (by omega)
  refine lv_aload_n hx hb dX4_isEnoughBy_0 rfl (lv_at hl 0 rfl) ?_
  refine va_get (D := D) (ci := 3) (v := .ref (ad 16)) (C := RX4) (T := TX4) (N := 10) hx hb hts (iX4) hown hK hP 0 rfl rfl 4 (by decide) (hts _ (List.mem_cons_of_mem _ wt_160)) (fun _ h9 => h9) rfl dX4_isEnoughBy_1 ?_
  refine va_get (D := D) (ci := 0) (v := .ref (ad 17)) (C := RX1) (T := TX1) (N := 3) hx hb hts (iX1) hown hK hP 3 rfl rfl 0 (by decide) (hts _ (List.mem_cons_of_mem _ wt_144)) (fun _ h9 => h9) rfl dX4_isEnoughBy_4 ?_
  refine lv_iload_n hx hb dX4_isEnoughBy_7 rfl (lv_at hl 1 rfl) ?_
  refine ro_i (roV_run (As := [.int (nI t)]) (rest := []) hx hb hml hown hts Tg_M (c_X3_at l D G _ (ad 17) (ad 18) 6 (n 7) (f 7) t (by omega) (by omega) (by omega)) lk_RX4_102 ⟨rfl, rfl, Nat.le_of_ble_eq_true rfl, Nat.le_of_ble_eq_true rfl⟩ hP hK [4, 5] rfl 4 2 rfl rfl rfl rfl hl rfl (Nat.le_of_ble_eq_true rfl) dX4_isEnoughBy_8 ⟨Nat.le_of_ble_eq_true rfl, Nat.le_of_ble_eq_true rfl⟩) hS hA (fun locs hS => ?_)
  refine lv_iload hx hb dX4_isEnoughBy_11 (lv_at hl 6 rfl) ?_
  refine lv_iload_n hx hb dX4_isEnoughBy_13 rfl (lv_at hl 1 rfl) ?_
  refine ro_i (roS_run (As := [.int (nI plan), .int (nI t)]) (rest := [.int (nI ((f 7) t))]) hx hb hml hown hts Tg_M (c_X4_plannedLicks l D G _ plan t (by omega) (by omega)) lk_RX4_224 ⟨rfl, rfl, Nat.le_of_ble_eq_true rfl, Nat.le_of_ble_eq_true rfl⟩ hP hK [] rfl rfl hl rfl (Nat.le_of_ble_eq_true rfl) dX4_isEnoughBy_14 ⟨Nat.le_of_ble_eq_true rfl, Nat.le_of_ble_eq_true rfl⟩) hS hA (fun locs hS => ?_)
  refine n_iadd hx hb dX4_isEnoughBy_17 ?_
  refine n_tope (show nI (((f 7) t) + (pd plan t)) = nI (lk t) from congrArg nI e4.2) ?_
  refine lv_istore (lv' := [(7, .int (nI (lk t))), (0, .ref (ad 0)), (1, .int (nI t)), (2, .int (nI lo)), (3, .int (nI hi)), (4, .int (nI mm)), (5, .int (nI 2)), (6, .int (nI plan))]) hx hb dX4_isEnoughBy_18 hl (by decide) rfl (fun ls hl => ?_)
  refine lv_iload_n hx hb dX4_isEnoughBy_20 rfl (lv_at hl 3 rfl) ?_
  refine lv_istore (lv' := [(8, .int (nI lo)), (7, .int (nI (lk t))), (0, .ref (ad 0)), (1, .int (nI t)), (2, .int (nI lo)), (3, .int (nI hi)), (4, .int (nI mm)), (5, .int (nI 2)), (6, .int (nI plan))]) hx hb dX4_isEnoughBy_21 hl (by decide) rfl (fun ls hl => ?_)
  refine lv_iconst (v := nI (0)) hx hb dX4_isEnoughBy_23 (by decide) ?_
  refine lv_istore (lv' := [(9, .int (nI 0)), (8, .int (nI lo)), (7, .int (nI (lk t))), (0, .ref (ad 0)), (1, .int (nI t)), (2, .int (nI lo)), (3, .int (nI hi)), (4, .int (nI mm)), (5, .int (nI 2)), (6, .int (nI plan))]) hx hb dX4_isEnoughBy_24 hl (by decide) rfl (fun ls hl => ?_)
  have loop_1 : ∀ (fuel : Nat) (sp : Nat) (fr : Nat), (sp ≤ 61) → (fr ≤ 61) → (spA (cS f k t (lk t)) hi (fun a e => enS (n 5) (cS f k) mm 1 (va_up lk t (lk t + 1)) a e) 61 lo = spA (cS f k t (lk t)) hi (fun a e => enS (n 5) (cS f k) mm 1 (va_up lk t (lk t + 1)) a e) (61 - sp) fr) → (61 - sp) < fuel → ∀ (locs : List Loc), va_S (rF s.heap) s.heap s.heap locs → ∀ (ls : Array Slot), lv_has ls 11 [(0, .ref (ad 0)), (1, .int (nI t)), (3, .int (nI hi)), (4, .int (nI mm)), (5, .int (nI 2)), (6, .int (nI plan)), (7, .int (nI (lk t))), (8, .int (nI fr)), (9, .int (nI sp))] → W p l e (rmD 7) s m args below meth c s.heap locs 0 0 (MQ below (rQi (bI (spA (cS f k t (lk t)) hi (fun a e => enS (n 5) (cS f k) mm 1 (va_up lk t (lk t + 1)) a e) 61 lo)) s.heap) args s 0 0 (rF s.heap)) (F0 m 26 ls []) := by
    intro fuel
    induction fuel with
    | zero => intro sp fr hi1 hi2 hu hfu; exact absurd hfu (Nat.not_lt_zero _)
    | succ fuel ih_2 =>
      intro sp fr hi1 hi2 hu hfu locs hS ls hl
      refine lv_iload hx hb dX4_isEnoughBy_26 (lv_at hl 8 rfl) ?_
      refine lv_bipush (v := nI (60)) hx hb dX4_isEnoughBy_28 (by decide) ?_
      refine n_icmp_gt (tgt := 95) hx hb dX4_isEnoughBy_30 (by decide) (by omega) (by omega) (fun c_30 => ?_) (fun c_30 => ?_)
      · refine lv_iconst (v := nI (1)) hx hb dX4_isEnoughBy_95 (by decide) ?_
        exact ro_zret hx hb hr hlocks hS dX4_isEnoughBy_96 (rfl) (bI_of_t (by rw [hu, show 61 - sp = 0 by omega, spA]))
      · refine lv_iload hx hb dX4_isEnoughBy_33 (lv_at hl 7 rfl) ?_
        refine lv_iload_n hx hb dX4_isEnoughBy_35 rfl (lv_at hl 2 rfl) ?_
        refine n_icmp_gt (tgt := 95) hx hb dX4_isEnoughBy_36 (by decide) (by omega) (by omega) (fun c_36 => ?_) (fun c_36 => ?_)
        · refine lv_iconst (v := nI (1)) hx hb dX4_isEnoughBy_95 (by decide) ?_
          exact ro_zret hx hb hr hlocks hS dX4_isEnoughBy_96 (rfl) (bI_of_t (by rw [hu, show 61 - sp = (60 - sp) + 1 by omega, spA, if_neg (by omega)]))
        · refine lv_aload_n hx hb dX4_isEnoughBy_39 rfl (lv_at hl 0 rfl) ?_
          refine lv_aload_n hx hb dX4_isEnoughBy_40 rfl (lv_at hl 0 rfl) ?_
          refine va_get (D := D) (ci := 3) (v := .ref (ad 12)) (C := RX4) (T := TX4) (N := 10) hx hb hts (iX4) hown hK hP 0 rfl rfl 2 (by decide) (hts _ (List.mem_cons_of_mem _ wt_158)) (fun _ h9 => h9) rfl dX4_isEnoughBy_41 ?_
          refine lv_iload_n hx hb dX4_isEnoughBy_44 rfl (lv_at hl 1 rfl) ?_
          refine ro_i (roV_run (As := [.int (nI t)]) (rest := [.ref (ad 0)]) hx hb hml hown hts Tg_M (c_X3_at l D G _ (ad 12) (ad 13) 6 (n 5) (f 5) t (by omega) (by omega) (by omega)) lk_RX4_102 ⟨rfl, rfl, Nat.le_of_ble_eq_true rfl, Nat.le_of_ble_eq_true rfl⟩ hP hK [1, 2] rfl 1 2 rfl rfl rfl rfl hl rfl (Nat.le_of_ble_eq_true rfl) dX4_isEnoughBy_45 ⟨Nat.le_of_ble_eq_true rfl, Nat.le_of_ble_eq_true rfl⟩) hS hA (fun locs hS => ?_)
          refine lv_iload hx hb dX4_isEnoughBy_48 (lv_at hl 6 rfl) ?_
          refine lv_iload hx hb dX4_isEnoughBy_50 (lv_at hl 7 rfl) ?_
          refine lv_iload_n hx hb dX4_isEnoughBy_52 rfl (lv_at hl 2 rfl) ?_
          have e8 := eoS_in (fun w => drk (f 5 t) w (lk t) (k 5)) (drk (f 5 t) fr (lk t) (k 5)) (hi - fr) fr
          refine ro_i (roV_run (As := [.int (nI ((f 5) t)), .int (nI (lk t)), .int (nI fr), .int (nI hi)]) (rest := []) hx hb hml hown hts Tg_M (c_X4_endOfSpan l D G _ ad n f k b tr ((f 5) t) (lk t) fr hi e1 (by omega) (by omega) (by omega) (by omega)) lk_RX4_217 ⟨rfl, rfl, Nat.le_of_ble_eq_true rfl, Nat.le_of_ble_eq_true rfl⟩ hP hK [0, 3] rfl 0 3 rfl rfl rfl rfl hl rfl (Nat.le_of_ble_eq_true rfl) dX4_isEnoughBy_53 ⟨Nat.le_of_ble_eq_true rfl, Nat.le_of_ble_eq_true rfl⟩) hS hA (fun locs hS => ?_)
          refine lv_istore (lv' := [(10, .int (nI (eoS (fun w => drk (f 5 t) w (lk t) (k 5)) (drk (f 5 t) fr (lk t) (k 5)) (hi - fr) fr))), (0, .ref (ad 0)), (1, .int (nI t)), (3, .int (nI hi)), (4, .int (nI mm)), (5, .int (nI 2)), (6, .int (nI plan)), (7, .int (nI (lk t))), (8, .int (nI fr)), (9, .int (nI sp))]) hx hb dX4_isEnoughBy_56 hl (by decide) rfl (fun ls hl => ?_)
          refine lv_aload_n hx hb dX4_isEnoughBy_58 rfl (lv_at hl 1 rfl) ?_
          refine lv_iload hx hb dX4_isEnoughBy_59 (lv_at hl 8 rfl) ?_
          refine lv_iload hx hb dX4_isEnoughBy_61 (lv_at hl 0 rfl) ?_
          refine lv_iload hx hb dX4_isEnoughBy_63 (lv_at hl 4 rfl) ?_
          refine lv_iload hx hb dX4_isEnoughBy_65 (lv_at hl 5 rfl) ?_
          refine lv_iconst (v := nI (1)) hx hb dX4_isEnoughBy_67 (by decide) ?_
          refine n_isub hx hb dX4_isEnoughBy_68 (by omega) ?_
          refine n_tope (show nI (2 - 1) = nI (1) from rfl) ?_
          refine lv_iload hx hb dX4_isEnoughBy_69 (lv_at hl 6 rfl) ?_
          refine lv_iload_n hx hb dX4_isEnoughBy_71 rfl (lv_at hl 2 rfl) ?_
          refine ro_i (roS_run (As := [.int (nI plan), .int (nI t)]) (rest := [.int (nI 1), .int (nI mm), .int (nI (eoS (fun w => drk (f 5 t) w (lk t) (k 5)) (drk (f 5 t) fr (lk t) (k 5)) (hi - fr) fr)), .int (nI fr), .ref (ad 0)]) hx hb hml hown hts Tg_M (c_X4_planWith l D G _ plan t (by omega)) lk_RX4_227 ⟨rfl, rfl, Nat.le_of_ble_eq_true rfl, Nat.le_of_ble_eq_true rfl⟩ hP hK [] rfl rfl hl rfl (Nat.le_of_ble_eq_true rfl) dX4_isEnoughBy_72 ⟨Nat.le_of_ble_eq_true rfl, Nat.le_of_ble_eq_true rfl⟩) hS hA (fun locs hS => ?_)
          refine ro_i (roV_run (As := [.int (nI fr), .int (nI (eoS (fun w => drk (f 5 t) w (lk t) (k 5)) (drk (f 5 t) fr (lk t) (k 5)) (hi - fr) fr)), .int (nI mm), .int (nI 1), .int (nI (plan + 2 ^ (2 * t)))]) (rest := []) hx hb hml hown hts Tg_M (c_X4_isEnough1 l D G _ ad n f k b tr q fr (eoS (fun w => drk (f 5 t) w (lk t) (k 5)) (drk (f 5 t) fr (lk t) (k 5)) (hi - fr) fr) mm (plan + 2 ^ (2 * t)) (va_up lk t (lk t + 1)) hI0 (by omega) (by omega) (by omega) (by have := pd_lt (t := t) (by omega); omega) (en_plan (by omega) (by decide) hpd)) lk_RX4_165 ⟨rfl, rfl, Nat.le_of_ble_eq_true rfl, Nat.le_of_ble_eq_true rfl⟩ hP hK [0, 1, 2, 3, 4, 5] rfl 0 3 rfl rfl rfl rfl hl rfl (Nat.le_of_ble_eq_true rfl) dX4_isEnoughBy_75 ⟨Nat.le_of_ble_eq_true rfl, Nat.le_of_ble_eq_true rfl⟩) hS hA (fun locs hS => ?_)
          refine b_if_ne (tgt := 83) hx hb dX4_isEnoughBy_78 (by decide) (fun c_78 => ?_) (fun c_78 => ?_)
          · refine lv_iload hx hb dX4_isEnoughBy_83 (lv_at hl 0 rfl) ?_
            refine lv_iconst (v := nI (1)) hx hb dX4_isEnoughBy_85 (by decide) ?_
            refine n_iadd hx hb dX4_isEnoughBy_86 ?_
            refine lv_istore (lv' := [(8, .int (nI ((eoS (fun w => drk (f 5 t) w (lk t) (k 5)) (drk (f 5 t) fr (lk t) (k 5)) (hi - fr) fr) + 1))), (10, .int (nI (eoS (fun w => drk (f 5 t) w (lk t) (k 5)) (drk (f 5 t) fr (lk t) (k 5)) (hi - fr) fr))), (0, .ref (ad 0)), (1, .int (nI t)), (3, .int (nI hi)), (4, .int (nI mm)), (5, .int (nI 2)), (6, .int (nI plan)), (7, .int (nI (lk t))), (9, .int (nI sp))]) hx hb dX4_isEnoughBy_87 hl (by decide) rfl (fun ls hl => ?_)
            refine lv_iinc (v := nI (sp + 1)) (lv' := [(9, .int (nI (sp + 1))), (8, .int (nI ((eoS (fun w => drk (f 5 t) w (lk t) (k 5)) (drk (f 5 t) fr (lk t) (k 5)) (hi - fr) fr) + 1))), (10, .int (nI (eoS (fun w => drk (f 5 t) w (lk t) (k 5)) (drk (f 5 t) fr (lk t) (k 5)) (hi - fr) fr))), (0, .ref (ad 0)), (1, .int (nI t)), (3, .int (nI hi)), (4, .int (nI mm)), (5, .int (nI 2)), (6, .int (nI plan)), (7, .int (nI (lk t)))]) hx hb dX4_isEnoughBy_89 hl (k := 9) rfl (nI_inc _ _) (by decide) rfl (fun ls hl => ?_)
            refine lv_goto (tgt := 26) hx hb dX4_isEnoughBy_92 (by decide) ?_
            exact ih_2 (sp + 1) (eoS (fun w => drk (f 5 t) w (lk t) (k 5)) (drk (f 5 t) fr (lk t) (k 5)) (hi - fr) fr + 1) (by omega) (by omega) (by rw [hu, show 61 - sp = (61 - (sp + 1)) + 1 by omega, spA, if_pos c_36]; exact (congrArg (· && _) c_78).trans (Bool.true_and _)) (by omega) locs hS _ (lv_sub hl [3, 4, 5, 6, 7, 8, 9, 1, 0] rfl)
          · refine lv_iconst (v := nI (0)) hx hb dX4_isEnoughBy_81 (by decide) ?_
            exact ro_zret hx hb hr hlocks hS dX4_isEnoughBy_82 (rfl) (bI_of_f (by rw [hu, show 61 - sp = (60 - sp) + 1 by omega, spA, if_pos c_36]; exact (congrArg (· && _) c_78).trans (Bool.false_and _)))
  exact loop_1 (61 - 0 + 1) (0) (lo) (by omega) (by omega) (rfl) (Nat.lt_succ_self _) locs hS _ (lv_sub hl [3, 4, 6, 7, 8, 9, 2, 1, 0] rfl)

set_option maxHeartbeats 4000000 in
set_option maxRecDepth 100000 in
theorem c_X4_isEnough2 (l : Launch) (D : va_G) (G : ClassId × ClassId × ClassId) (H0 : Heap) (ad n : Nat → Nat) (f : Nat → Nat → Nat) (k : Nat → Nat) (b : Nat → Bool) (tr : Int64) (q lo hi mm plan : Nat) (lk : Nat → Nat) (hI : XI n f k q) (hlo : lo ≤ hi) (hhi : hi ≤ 60) (hm : mm ≤ 61) (hp : plan ≤ (3 - 2) * 1024) (hpd : ∀ u, u < 6 → pd plan u ≤ 3 - 2 ∧ f 7 u + pd plan u = lk u) : Met l yX4_isEnough (wM yX4_isEnough cX4_isEnough 7 (some .boolean)) (rmD 8) (rP D G [.ref (ad 0), .int (nI lo), .int (nI hi), .int (nI mm), .int (nI 2), .int (nI plan)] [(ad 0, .inr (3, [.ref (ad 1), .ref (ad 10), .ref (ad 12), .ref (ad 14), .ref (ad 16), .ref (ad 21), .ref (ad 26), .int (bI (b 1)), .int (bI (b 2)), .long (tr)])), (ad 12, .inr (2, [.ref (ad 13), .int (nI (n 5))])), (ad 13, .inl (G.1, 6, .inl (nF (f 5)))), (ad 16, .inr (0, [.ref (ad 17), .ref (ad 19), .int (nI (k 5))])), (ad 17, .inr (2, [.ref (ad 18), .int (nI (n 7))])), (ad 18, .inl (G.1, 6, .inl (nF (f 7))))] H0) (rQi (bI (enS (n 5) (cS f k) mm 2 lk lo hi)) H0) 0 0 (rF H0) := by
  refine ro_start (Qc := fun H0 => (rQi (bI (enS (n 5) (cS f k) mm 2 lk lo hi)) H0)) (by decide) (Nat.le_of_ble_eq_true rfl) ?_
  intro p e s m args below meth c hx hb hr hts hown hlocks hml hP hK hA hH0 ls hl locs hS
  have hl : lv_has ls 7 [(0, .ref (ad 0)), (1, .int (nI lo)), (2, .int (nI hi)), (3, .int (nI mm)), (4, .int (nI 2)), (5, .int (nI plan))] := hl
  have hI0 := hI
  obtain ⟨i4, i5, i6, iq, iw, il, i7, i8, ih9, ik, iF⟩ := hI
  refine lv_iload_n hx hb dX4_isEnough_0 rfl (lv_at hl 2 rfl) ?_
  refine lv_iload_n hx hb dX4_isEnough_1 rfl (lv_at hl 1 rfl) ?_
  refine n_isub hx hb dX4_isEnough_2 (by omega) ?_
  refine lv_iconst (v := nI (1)) hx hb dX4_isEnough_3 (by decide) ?_
  refine n_iadd hx hb dX4_isEnough_4 ?_
  refine lv_iload_n hx hb dX4_isEnough_5 rfl (lv_at hl 3 rfl) ?_
  refine n_icmp_gt (tgt := 11) hx hb dX4_isEnough_6 (by decide) (by omega) (by omega) (fun c_6 => ?_) (fun c_6 => ?_)
  · refine lv_iload hx hb dX4_isEnough_11 (lv_at hl 4 rfl) ?_
    refine n_if_gt (tgt := 18) hx hb dX4_isEnough_13 (by decide) (by omega) (fun c_13 => ?_) (fun c_13 => ?_)
    · refine lv_iconst (v := nI (0)) hx hb dX4_isEnough_18 (by decide) ?_
      refine lv_istore (lv' := [(6, .int (nI 0)), (0, .ref (ad 0)), (1, .int (nI lo)), (2, .int (nI hi)), (3, .int (nI mm)), (4, .int (nI 2)), (5, .int (nI plan))]) hx hb dX4_isEnough_19 hl (by decide) rfl (fun ls hl => ?_)
      have loop_1 : ∀ (fuel : Nat) (t : Nat), (t ≤ n 5) → (∀ u, u < t → spA (cS f k u (lk u)) hi (fun a e => enS (n 5) (cS f k) mm 1 (va_up lk u (lk u + 1)) a e) 61 lo = false) → (n 5 - t) < fuel → ∀ (locs : List Loc), va_S (rF s.heap) s.heap s.heap locs → ∀ (ls : Array Slot), lv_has ls 7 [(0, .ref (ad 0)), (1, .int (nI lo)), (2, .int (nI hi)), (3, .int (nI mm)), (4, .int (nI 2)), (5, .int (nI plan)), (6, .int (nI t))] → W p l e (rmD 8) s m args below meth c s.heap locs 0 0 (MQ below (rQi (bI (enS (n 5) (cS f k) mm 2 lk lo hi)) s.heap) args s 0 0 (rF s.heap)) (F0 m 21 ls []) := by
        intro fuel
        induction fuel with
        | zero => intro t hi1 ha hfu; exact absurd hfu (Nat.not_lt_zero _)
        | succ fuel ih_2 =>
          intro t hi1 ha hfu locs hS ls hl
          refine lv_iload hx hb dX4_isEnough_21 (lv_at hl 6 rfl) ?_
          refine lv_aload_n hx hb dX4_isEnough_23 rfl (lv_at hl 0 rfl) ?_
          refine va_get (D := D) (ci := 3) (v := .ref (ad 12)) (C := RX4) (T := TX4) (N := 10) hx hb hts (iX4) hown hK hP 0 rfl rfl 2 (by decide) (hts _ (List.mem_cons_of_mem _ wt_158)) (fun _ h9 => h9) rfl dX4_isEnough_24 ?_
          refine ro_i (roV_run (As := []) (rest := [.int (nI t)]) hx hb hml hown hts Tg_M (c_X3_size l D G _ (ad 12) (ad 13) 6 (n 5) (f 5)) lk_RX4_62 ⟨rfl, rfl, Nat.le_of_ble_eq_true rfl, Nat.le_of_ble_eq_true rfl⟩ hP hK [1, 2] rfl 1 2 rfl rfl rfl rfl hl rfl (Nat.le_of_ble_eq_true rfl) dX4_isEnough_27 ⟨Nat.le_of_ble_eq_true rfl, Nat.le_of_ble_eq_true rfl⟩) hS hA (fun locs hS => ?_)
          refine n_icmp_ge (tgt := 57) hx hb dX4_isEnough_30 (by decide) (by omega) (by omega) (fun c_30 => ?_) (fun c_30 => ?_)
          · refine lv_iconst (v := nI (0)) hx hb dX4_isEnough_57 (by decide) ?_
            exact ro_zret hx hb hr hlocks hS dX4_isEnough_58 (rfl) (bI_of_f (by rw [enS, decide_eq_false (by omega), Bool.false_or]; exact decide_eq_false (fun ⟨u, h1, h2⟩ => absurd ((ha u (by omega)).symm.trans h2) (by decide))))
          · refine lv_aload_n hx hb dX4_isEnough_33 rfl (lv_at hl 0 rfl) ?_
            refine lv_iload hx hb dX4_isEnough_34 (lv_at hl 6 rfl) ?_
            refine lv_iload_n hx hb dX4_isEnough_36 rfl (lv_at hl 1 rfl) ?_
            refine lv_iload_n hx hb dX4_isEnough_37 rfl (lv_at hl 2 rfl) ?_
            refine lv_iload_n hx hb dX4_isEnough_38 rfl (lv_at hl 3 rfl) ?_
            refine lv_iload hx hb dX4_isEnough_39 (lv_at hl 4 rfl) ?_
            refine lv_iload hx hb dX4_isEnough_41 (lv_at hl 5 rfl) ?_
            refine ro_i (roV_run (As := [.int (nI t), .int (nI lo), .int (nI hi), .int (nI mm), .int (nI 2), .int (nI plan)]) (rest := []) hx hb hml hown hts Tg_M (c_X4_isEnoughBy2 l D G _ ad n f k b tr t q lo hi mm plan lk c_30 hI0 hlo hhi hm hp hpd) lk_RX4_220 ⟨rfl, rfl, Nat.le_of_ble_eq_true rfl, Nat.le_of_ble_eq_true rfl⟩ hP hK [0, 1, 2, 3, 4, 5] rfl 0 3 rfl rfl rfl rfl hl rfl (Nat.le_of_ble_eq_true rfl) dX4_isEnough_43 ⟨Nat.le_of_ble_eq_true rfl, Nat.le_of_ble_eq_true rfl⟩) hS hA (fun locs hS => ?_)
            refine b_if_eq (tgt := 51) hx hb dX4_isEnough_46 (by decide) (fun c_46 => ?_) (fun c_46 => ?_)
            · refine lv_iinc (v := nI (t + 1)) (lv' := [(6, .int (nI (t + 1))), (0, .ref (ad 0)), (1, .int (nI lo)), (2, .int (nI hi)), (3, .int (nI mm)), (4, .int (nI 2)), (5, .int (nI plan))]) hx hb dX4_isEnough_51 hl (k := 6) rfl (nI_inc _ _) (by decide) rfl (fun ls hl => ?_)
              refine lv_goto (tgt := 21) hx hb dX4_isEnough_54 (by decide) ?_
              exact ih_2 (t + 1) (by omega) (lt_s ha c_46) (by omega) locs hS _ (lv_sub hl [1, 2, 3, 4, 5, 6, 0] rfl)
            · refine lv_iconst (v := nI (1)) hx hb dX4_isEnough_49 (by decide) ?_
              exact ro_zret hx hb hr hlocks hS dX4_isEnough_50 (rfl) (bI_of_t (by rw [enS, show anyB (n 5) _ = true from decide_eq_true ⟨t, c_30, c_46⟩, Bool.or_true]))
      exact loop_1 (n 5 - 0 + 1) (0) (by omega) (fun u hu => absurd hu (Nat.not_lt_zero u)) (Nat.lt_succ_self _) locs hS _ (lv_sub hl [1, 2, 3, 4, 5, 6, 0] rfl)
    · exact absurd c_13 (by decide)
  · refine lv_iconst (v := nI (1)) hx hb dX4_isEnough_9 (by decide) ?_
    exact ro_zret hx hb hr hlocks hS dX4_isEnough_10 (rfl) (bI_of_t (by rw [enS, decide_eq_true c_6]; rfl))

set_option maxHeartbeats 4000000 in
set_option maxRecDepth 100000 in
theorem c_X4_isEnoughBy3 (l : Launch) (D : va_G) (G : ClassId × ClassId × ClassId) (H0 : Heap) (ad n : Nat → Nat) (f : Nat → Nat → Nat) (k : Nat → Nat) (b : Nat → Bool) (tr : Int64) (t : Nat) (q lo hi mm plan : Nat) (lk : Nat → Nat) (ht : t < n 5) (hI : XI n f k q) (hlo : lo ≤ hi) (hhi : hi ≤ 60) (hm : mm ≤ 61) (hp : plan ≤ (3 - 3) * 1024) (hpd : ∀ u, u < 6 → pd plan u ≤ 3 - 3 ∧ f 7 u + pd plan u = lk u) : Met l yX4_isEnoughBy (wM yX4_isEnoughBy cX4_isEnoughBy 11 (some .boolean)) (rmD 9) (rP D G [.ref (ad 0), .int (nI t), .int (nI lo), .int (nI hi), .int (nI mm), .int (nI 3), .int (nI plan)] [(ad 0, .inr (3, [.ref (ad 1), .ref (ad 10), .ref (ad 12), .ref (ad 14), .ref (ad 16), .ref (ad 21), .ref (ad 26), .int (bI (b 1)), .int (bI (b 2)), .long (tr)])), (ad 12, .inr (2, [.ref (ad 13), .int (nI (n 5))])), (ad 13, .inl (G.1, 6, .inl (nF (f 5)))), (ad 16, .inr (0, [.ref (ad 17), .ref (ad 19), .int (nI (k 5))])), (ad 17, .inr (2, [.ref (ad 18), .int (nI (n 7))])), (ad 18, .inl (G.1, 6, .inl (nF (f 7))))] H0) (rQi (bI (spA (cS f k t (lk t)) hi (fun a e => enS (n 5) (cS f k) mm 2 (va_up lk t (lk t + 1)) a e) 61 lo)) H0) 0 0 (rF H0) := by
  refine ro_start (Qc := fun H0 => (rQi (bI (spA (cS f k t (lk t)) hi (fun a e => enS (n 5) (cS f k) mm 2 (va_up lk t (lk t + 1)) a e) 61 lo)) H0)) (by decide) (Nat.le_of_ble_eq_true rfl) ?_
  intro p e s m args below meth c hx hb hr hts hown hlocks hml hP hK hA hH0 ls hl locs hS
  have hl : lv_has ls 11 [(0, .ref (ad 0)), (1, .int (nI t)), (2, .int (nI lo)), (3, .int (nI hi)), (4, .int (nI mm)), (5, .int (nI 3)), (6, .int (nI plan))] := hl
  have hI0 := hI
  obtain ⟨i4, i5, i6, iq, iw, il, i7, i8, ih9, ik, iF⟩ := hI
  have e1 := il t ht
  have e3 := ik t ht
  have e4 := hpd t (by omega)
  refine lv_aload_n hx hb dX4_isEnoughBy_0 rfl (lv_at hl 0 rfl) ?_
  refine va_get (D := D) (ci := 3) (v := .ref (ad 16)) (C := RX4) (T := TX4) (N := 10) hx hb hts (iX4) hown hK hP 0 rfl rfl 4 (by decide) (hts _ (List.mem_cons_of_mem _ wt_160)) (fun _ h9 => h9) rfl dX4_isEnoughBy_1 ?_
  refine va_get (D := D) (ci := 0) (v := .ref (ad 17)) (C := RX1) (T := TX1) (N := 3) hx hb hts (iX1) hown hK hP 3 rfl rfl 0 (by decide) (hts _ (List.mem_cons_of_mem _ wt_144)) (fun _ h9 => h9) rfl dX4_isEnoughBy_4 ?_
  refine lv_iload_n hx hb dX4_isEnoughBy_7 rfl (lv_at hl 1 rfl) ?_
  refine ro_i (roV_run (As := [.int (nI t)]) (rest := []) hx hb hml hown hts Tg_M (c_X3_at l D G _ (ad 17) (ad 18) 6 (n 7) (f 7) t (by omega) (by omega) (by omega)) lk_RX4_102 ⟨rfl, rfl, Nat.le_of_ble_eq_true rfl, Nat.le_of_ble_eq_true rfl⟩ hP hK [4, 5] rfl 4 2 rfl rfl rfl rfl hl rfl (Nat.le_of_ble_eq_true rfl) dX4_isEnoughBy_8 ⟨Nat.le_of_ble_eq_true rfl, Nat.le_of_ble_eq_true rfl⟩) hS hA (fun locs hS => ?_)
  refine lv_iload hx hb dX4_isEnoughBy_11 (lv_at hl 6 rfl) ?_
  refine lv_iload_n hx hb dX4_isEnoughBy_13 rfl (lv_at hl 1 rfl) ?_
  refine ro_i (roS_run (As := [.int (nI plan), .int (nI t)]) (rest := [.int (nI ((f 7) t))]) hx hb hml hown hts Tg_M (c_X4_plannedLicks l D G _ plan t (by omega) (by omega)) lk_RX4_224 ⟨rfl, rfl, Nat.le_of_ble_eq_true rfl, Nat.le_of_ble_eq_true rfl⟩ hP hK [] rfl rfl hl rfl (Nat.le_of_ble_eq_true rfl) dX4_isEnoughBy_14 ⟨Nat.le_of_ble_eq_true rfl, Nat.le_of_ble_eq_true rfl⟩) hS hA (fun locs hS => ?_)
  refine n_iadd hx hb dX4_isEnoughBy_17 ?_
  refine n_tope (show nI (((f 7) t) + (pd plan t)) = nI (lk t) from congrArg nI e4.2) ?_
  refine lv_istore (lv' := [(7, .int (nI (lk t))), (0, .ref (ad 0)), (1, .int (nI t)), (2, .int (nI lo)), (3, .int (nI hi)), (4, .int (nI mm)), (5, .int (nI 3)), (6, .int (nI plan))]) hx hb dX4_isEnoughBy_18 hl (by decide) rfl (fun ls hl => ?_)
  refine lv_iload_n hx hb dX4_isEnoughBy_20 rfl (lv_at hl 3 rfl) ?_
  refine lv_istore (lv' := [(8, .int (nI lo)), (7, .int (nI (lk t))), (0, .ref (ad 0)), (1, .int (nI t)), (2, .int (nI lo)), (3, .int (nI hi)), (4, .int (nI mm)), (5, .int (nI 3)), (6, .int (nI plan))]) hx hb dX4_isEnoughBy_21 hl (by decide) rfl (fun ls hl => ?_)
  refine lv_iconst (v := nI (0)) hx hb dX4_isEnoughBy_23 (by decide) ?_
  refine lv_istore (lv' := [(9, .int (nI 0)), (8, .int (nI lo)), (7, .int (nI (lk t))), (0, .ref (ad 0)), (1, .int (nI t)), (2, .int (nI lo)), (3, .int (nI hi)), (4, .int (nI mm)), (5, .int (nI 3)), (6, .int (nI plan))]) hx hb dX4_isEnoughBy_24 hl (by decide) rfl (fun ls hl => ?_)
  have loop_1 : ∀ (fuel : Nat) (sp : Nat) (fr : Nat), (sp ≤ 61) → (fr ≤ 61) → (spA (cS f k t (lk t)) hi (fun a e => enS (n 5) (cS f k) mm 2 (va_up lk t (lk t + 1)) a e) 61 lo = spA (cS f k t (lk t)) hi (fun a e => enS (n 5) (cS f k) mm 2 (va_up lk t (lk t + 1)) a e) (61 - sp) fr) → (61 - sp) < fuel → ∀ (locs : List Loc), va_S (rF s.heap) s.heap s.heap locs → ∀ (ls : Array Slot), lv_has ls 11 [(0, .ref (ad 0)), (1, .int (nI t)), (3, .int (nI hi)), (4, .int (nI mm)), (5, .int (nI 3)), (6, .int (nI plan)), (7, .int (nI (lk t))), (8, .int (nI fr)), (9, .int (nI sp))] → W p l e (rmD 9) s m args below meth c s.heap locs 0 0 (MQ below (rQi (bI (spA (cS f k t (lk t)) hi (fun a e => enS (n 5) (cS f k) mm 2 (va_up lk t (lk t + 1)) a e) 61 lo)) s.heap) args s 0 0 (rF s.heap)) (F0 m 26 ls []) := by
    intro fuel
    induction fuel with
    | zero => intro sp fr hi1 hi2 hu hfu; exact absurd hfu (Nat.not_lt_zero _)
    | succ fuel ih_2 =>
      intro sp fr hi1 hi2 hu hfu locs hS ls hl
      refine lv_iload hx hb dX4_isEnoughBy_26 (lv_at hl 8 rfl) ?_
      refine lv_bipush (v := nI (60)) hx hb dX4_isEnoughBy_28 (by decide) ?_
      refine n_icmp_gt (tgt := 95) hx hb dX4_isEnoughBy_30 (by decide) (by omega) (by omega) (fun c_30 => ?_) (fun c_30 => ?_)
      · refine lv_iconst (v := nI (1)) hx hb dX4_isEnoughBy_95 (by decide) ?_
        exact ro_zret hx hb hr hlocks hS dX4_isEnoughBy_96 (rfl) (bI_of_t (by rw [hu, show 61 - sp = 0 by omega, spA]))
      · refine lv_iload hx hb dX4_isEnoughBy_33 (lv_at hl 7 rfl) ?_
        refine lv_iload_n hx hb dX4_isEnoughBy_35 rfl (lv_at hl 2 rfl) ?_
        refine n_icmp_gt (tgt := 95) hx hb dX4_isEnoughBy_36 (by decide) (by omega) (by omega) (fun c_36 => ?_) (fun c_36 => ?_)
        · refine lv_iconst (v := nI (1)) hx hb dX4_isEnoughBy_95 (by decide) ?_
          exact ro_zret hx hb hr hlocks hS dX4_isEnoughBy_96 (rfl) (bI_of_t (by rw [hu, show 61 - sp = (60 - sp) + 1 by omega, spA, if_neg (by omega)]))
        · refine lv_aload_n hx hb dX4_isEnoughBy_39 rfl (lv_at hl 0 rfl) ?_
          refine lv_aload_n hx hb dX4_isEnoughBy_40 rfl (lv_at hl 0 rfl) ?_
          refine va_get (D := D) (ci := 3) (v := .ref (ad 12)) (C := RX4) (T := TX4) (N := 10) hx hb hts (iX4) hown hK hP 0 rfl rfl 2 (by decide) (hts _ (List.mem_cons_of_mem _ wt_158)) (fun _ h9 => h9) rfl dX4_isEnoughBy_41 ?_
          refine lv_iload_n hx hb dX4_isEnoughBy_44 rfl (lv_at hl 1 rfl) ?_
          refine ro_i (roV_run (As := [.int (nI t)]) (rest := [.ref (ad 0)]) hx hb hml hown hts Tg_M (c_X3_at l D G _ (ad 12) (ad 13) 6 (n 5) (f 5) t (by omega) (by omega) (by omega)) lk_RX4_102 ⟨rfl, rfl, Nat.le_of_ble_eq_true rfl, Nat.le_of_ble_eq_true rfl⟩ hP hK [1, 2] rfl 1 2 rfl rfl rfl rfl hl rfl (Nat.le_of_ble_eq_true rfl) dX4_isEnoughBy_45 ⟨Nat.le_of_ble_eq_true rfl, Nat.le_of_ble_eq_true rfl⟩) hS hA (fun locs hS => ?_)
          refine lv_iload hx hb dX4_isEnoughBy_48 (lv_at hl 6 rfl) ?_
          refine lv_iload hx hb dX4_isEnoughBy_50 (lv_at hl 7 rfl) ?_
          refine lv_iload_n hx hb dX4_isEnoughBy_52 rfl (lv_at hl 2 rfl) ?_
          have e8 := eoS_in (fun w => drk (f 5 t) w (lk t) (k 5)) (drk (f 5 t) fr (lk t) (k 5)) (hi - fr) fr
          refine ro_i (roV_run (As := [.int (nI ((f 5) t)), .int (nI (lk t)), .int (nI fr), .int (nI hi)]) (rest := []) hx hb hml hown hts Tg_M (c_X4_endOfSpan l D G _ ad n f k b tr ((f 5) t) (lk t) fr hi e1 (by omega) (by omega) (by omega) (by omega)) lk_RX4_217 ⟨rfl, rfl, Nat.le_of_ble_eq_true rfl, Nat.le_of_ble_eq_true rfl⟩ hP hK [0, 3] rfl 0 3 rfl rfl rfl rfl hl rfl (Nat.le_of_ble_eq_true rfl) dX4_isEnoughBy_53 ⟨Nat.le_of_ble_eq_true rfl, Nat.le_of_ble_eq_true rfl⟩) hS hA (fun locs hS => ?_)
          refine lv_istore (lv' := [(10, .int (nI (eoS (fun w => drk (f 5 t) w (lk t) (k 5)) (drk (f 5 t) fr (lk t) (k 5)) (hi - fr) fr))), (0, .ref (ad 0)), (1, .int (nI t)), (3, .int (nI hi)), (4, .int (nI mm)), (5, .int (nI 3)), (6, .int (nI plan)), (7, .int (nI (lk t))), (8, .int (nI fr)), (9, .int (nI sp))]) hx hb dX4_isEnoughBy_56 hl (by decide) rfl (fun ls hl => ?_)
          refine lv_aload_n hx hb dX4_isEnoughBy_58 rfl (lv_at hl 1 rfl) ?_
          refine lv_iload hx hb dX4_isEnoughBy_59 (lv_at hl 8 rfl) ?_
          refine lv_iload hx hb dX4_isEnoughBy_61 (lv_at hl 0 rfl) ?_
          refine lv_iload hx hb dX4_isEnoughBy_63 (lv_at hl 4 rfl) ?_
          refine lv_iload hx hb dX4_isEnoughBy_65 (lv_at hl 5 rfl) ?_
          refine lv_iconst (v := nI (1)) hx hb dX4_isEnoughBy_67 (by decide) ?_
          refine n_isub hx hb dX4_isEnoughBy_68 (by omega) ?_
          refine n_tope (show nI (3 - 1) = nI (2) from rfl) ?_
          refine lv_iload hx hb dX4_isEnoughBy_69 (lv_at hl 6 rfl) ?_
          refine lv_iload_n hx hb dX4_isEnoughBy_71 rfl (lv_at hl 2 rfl) ?_
          refine ro_i (roS_run (As := [.int (nI plan), .int (nI t)]) (rest := [.int (nI 2), .int (nI mm), .int (nI (eoS (fun w => drk (f 5 t) w (lk t) (k 5)) (drk (f 5 t) fr (lk t) (k 5)) (hi - fr) fr)), .int (nI fr), .ref (ad 0)]) hx hb hml hown hts Tg_M (c_X4_planWith l D G _ plan t (by omega)) lk_RX4_227 ⟨rfl, rfl, Nat.le_of_ble_eq_true rfl, Nat.le_of_ble_eq_true rfl⟩ hP hK [] rfl rfl hl rfl (Nat.le_of_ble_eq_true rfl) dX4_isEnoughBy_72 ⟨Nat.le_of_ble_eq_true rfl, Nat.le_of_ble_eq_true rfl⟩) hS hA (fun locs hS => ?_)
          refine ro_i (roV_run (As := [.int (nI fr), .int (nI (eoS (fun w => drk (f 5 t) w (lk t) (k 5)) (drk (f 5 t) fr (lk t) (k 5)) (hi - fr) fr)), .int (nI mm), .int (nI 2), .int (nI (plan + 2 ^ (2 * t)))]) (rest := []) hx hb hml hown hts Tg_M (c_X4_isEnough2 l D G _ ad n f k b tr q fr (eoS (fun w => drk (f 5 t) w (lk t) (k 5)) (drk (f 5 t) fr (lk t) (k 5)) (hi - fr) fr) mm (plan + 2 ^ (2 * t)) (va_up lk t (lk t + 1)) hI0 (by omega) (by omega) (by omega) (by have := pd_lt (t := t) (by omega); omega) (en_plan (by omega) (by decide) hpd)) lk_RX4_165 ⟨rfl, rfl, Nat.le_of_ble_eq_true rfl, Nat.le_of_ble_eq_true rfl⟩ hP hK [0, 1, 2, 3, 4, 5] rfl 0 3 rfl rfl rfl rfl hl rfl (Nat.le_of_ble_eq_true rfl) dX4_isEnoughBy_75 ⟨Nat.le_of_ble_eq_true rfl, Nat.le_of_ble_eq_true rfl⟩) hS hA (fun locs hS => ?_)
          refine b_if_ne (tgt := 83) hx hb dX4_isEnoughBy_78 (by decide) (fun c_78 => ?_) (fun c_78 => ?_)
          · refine lv_iload hx hb dX4_isEnoughBy_83 (lv_at hl 0 rfl) ?_
            refine lv_iconst (v := nI (1)) hx hb dX4_isEnoughBy_85 (by decide) ?_
            refine n_iadd hx hb dX4_isEnoughBy_86 ?_
            refine lv_istore (lv' := [(8, .int (nI ((eoS (fun w => drk (f 5 t) w (lk t) (k 5)) (drk (f 5 t) fr (lk t) (k 5)) (hi - fr) fr) + 1))), (10, .int (nI (eoS (fun w => drk (f 5 t) w (lk t) (k 5)) (drk (f 5 t) fr (lk t) (k 5)) (hi - fr) fr))), (0, .ref (ad 0)), (1, .int (nI t)), (3, .int (nI hi)), (4, .int (nI mm)), (5, .int (nI 3)), (6, .int (nI plan)), (7, .int (nI (lk t))), (9, .int (nI sp))]) hx hb dX4_isEnoughBy_87 hl (by decide) rfl (fun ls hl => ?_)
            refine lv_iinc (v := nI (sp + 1)) (lv' := [(9, .int (nI (sp + 1))), (8, .int (nI ((eoS (fun w => drk (f 5 t) w (lk t) (k 5)) (drk (f 5 t) fr (lk t) (k 5)) (hi - fr) fr) + 1))), (10, .int (nI (eoS (fun w => drk (f 5 t) w (lk t) (k 5)) (drk (f 5 t) fr (lk t) (k 5)) (hi - fr) fr))), (0, .ref (ad 0)), (1, .int (nI t)), (3, .int (nI hi)), (4, .int (nI mm)), (5, .int (nI 3)), (6, .int (nI plan)), (7, .int (nI (lk t)))]) hx hb dX4_isEnoughBy_89 hl (k := 9) rfl (nI_inc _ _) (by decide) rfl (fun ls hl => ?_)
            refine lv_goto (tgt := 26) hx hb dX4_isEnoughBy_92 (by decide) ?_
            exact ih_2 (sp + 1) (eoS (fun w => drk (f 5 t) w (lk t) (k 5)) (drk (f 5 t) fr (lk t) (k 5)) (hi - fr) fr + 1) (by omega) (by omega) (by rw [hu, show 61 - sp = (61 - (sp + 1)) + 1 by omega, spA, if_pos c_36]; exact (congrArg (· && _) c_78).trans (Bool.true_and _)) (by omega) locs hS _ (lv_sub hl [3, 4, 5, 6, 7, 8, 9, 1, 0] rfl)
          · refine lv_iconst (v := nI (0)) hx hb dX4_isEnoughBy_81 (by decide) ?_
            exact ro_zret hx hb hr hlocks hS dX4_isEnoughBy_82 (rfl) (bI_of_f (by rw [hu, show 61 - sp = (60 - sp) + 1 by omega, spA, if_pos c_36]; exact (congrArg (· && _) c_78).trans (Bool.false_and _)))
  exact loop_1 (61 - 0 + 1) (0) (lo) (by omega) (by omega) (rfl) (Nat.lt_succ_self _) locs hS _ (lv_sub hl [3, 4, 6, 7, 8, 9, 2, 1, 0] rfl)

set_option maxHeartbeats 4000000 in
set_option maxRecDepth 100000 in
theorem c_X4_isEnough3 (l : Launch) (D : va_G) (G : ClassId × ClassId × ClassId) (H0 : Heap) (ad n : Nat → Nat) (f : Nat → Nat → Nat) (k : Nat → Nat) (b : Nat → Bool) (tr : Int64) (q lo hi mm plan : Nat) (lk : Nat → Nat) (hI : XI n f k q) (hlo : lo ≤ hi) (hhi : hi ≤ 60) (hm : mm ≤ 61) (hp : plan ≤ (3 - 3) * 1024) (hpd : ∀ u, u < 6 → pd plan u ≤ 3 - 3 ∧ f 7 u + pd plan u = lk u) : Met l yX4_isEnough (wM yX4_isEnough cX4_isEnough 7 (some .boolean)) (rmD 10) (rP D G [.ref (ad 0), .int (nI lo), .int (nI hi), .int (nI mm), .int (nI 3), .int (nI plan)] [(ad 0, .inr (3, [.ref (ad 1), .ref (ad 10), .ref (ad 12), .ref (ad 14), .ref (ad 16), .ref (ad 21), .ref (ad 26), .int (bI (b 1)), .int (bI (b 2)), .long (tr)])), (ad 12, .inr (2, [.ref (ad 13), .int (nI (n 5))])), (ad 13, .inl (G.1, 6, .inl (nF (f 5)))), (ad 16, .inr (0, [.ref (ad 17), .ref (ad 19), .int (nI (k 5))])), (ad 17, .inr (2, [.ref (ad 18), .int (nI (n 7))])), (ad 18, .inl (G.1, 6, .inl (nF (f 7))))] H0) (rQi (bI (enS (n 5) (cS f k) mm 3 lk lo hi)) H0) 0 0 (rF H0) := by
  refine ro_start (Qc := fun H0 => (rQi (bI (enS (n 5) (cS f k) mm 3 lk lo hi)) H0)) (by decide) (Nat.le_of_ble_eq_true rfl) ?_
  intro p e s m args below meth c hx hb hr hts hown hlocks hml hP hK hA hH0 ls hl locs hS
  have hl : lv_has ls 7 [(0, .ref (ad 0)), (1, .int (nI lo)), (2, .int (nI hi)), (3, .int (nI mm)), (4, .int (nI 3)), (5, .int (nI plan))] := hl
  have hI0 := hI
  obtain ⟨i4, i5, i6, iq, iw, il, i7, i8, ih9, ik, iF⟩ := hI
  refine lv_iload_n hx hb dX4_isEnough_0 rfl (lv_at hl 2 rfl) ?_
  refine lv_iload_n hx hb dX4_isEnough_1 rfl (lv_at hl 1 rfl) ?_
  refine n_isub hx hb dX4_isEnough_2 (by omega) ?_
  refine lv_iconst (v := nI (1)) hx hb dX4_isEnough_3 (by decide) ?_
  refine n_iadd hx hb dX4_isEnough_4 ?_
  refine lv_iload_n hx hb dX4_isEnough_5 rfl (lv_at hl 3 rfl) ?_
  refine n_icmp_gt (tgt := 11) hx hb dX4_isEnough_6 (by decide) (by omega) (by omega) (fun c_6 => ?_) (fun c_6 => ?_)
  · refine lv_iload hx hb dX4_isEnough_11 (lv_at hl 4 rfl) ?_
    refine n_if_gt (tgt := 18) hx hb dX4_isEnough_13 (by decide) (by omega) (fun c_13 => ?_) (fun c_13 => ?_)
    · refine lv_iconst (v := nI (0)) hx hb dX4_isEnough_18 (by decide) ?_
      refine lv_istore (lv' := [(6, .int (nI 0)), (0, .ref (ad 0)), (1, .int (nI lo)), (2, .int (nI hi)), (3, .int (nI mm)), (4, .int (nI 3)), (5, .int (nI plan))]) hx hb dX4_isEnough_19 hl (by decide) rfl (fun ls hl => ?_)
      have loop_1 : ∀ (fuel : Nat) (t : Nat), (t ≤ n 5) → (∀ u, u < t → spA (cS f k u (lk u)) hi (fun a e => enS (n 5) (cS f k) mm 2 (va_up lk u (lk u + 1)) a e) 61 lo = false) → (n 5 - t) < fuel → ∀ (locs : List Loc), va_S (rF s.heap) s.heap s.heap locs → ∀ (ls : Array Slot), lv_has ls 7 [(0, .ref (ad 0)), (1, .int (nI lo)), (2, .int (nI hi)), (3, .int (nI mm)), (4, .int (nI 3)), (5, .int (nI plan)), (6, .int (nI t))] → W p l e (rmD 10) s m args below meth c s.heap locs 0 0 (MQ below (rQi (bI (enS (n 5) (cS f k) mm 3 lk lo hi)) s.heap) args s 0 0 (rF s.heap)) (F0 m 21 ls []) := by
        intro fuel
        induction fuel with
        | zero => intro t hi1 ha hfu; exact absurd hfu (Nat.not_lt_zero _)
        | succ fuel ih_2 =>
          intro t hi1 ha hfu locs hS ls hl
          refine lv_iload hx hb dX4_isEnough_21 (lv_at hl 6 rfl) ?_
          refine lv_aload_n hx hb dX4_isEnough_23 rfl (lv_at hl 0 rfl) ?_
          refine va_get (D := D) (ci := 3) (v := .ref (ad 12)) (C := RX4) (T := TX4) (N := 10) hx hb hts (iX4) hown hK hP 0 rfl rfl 2 (by decide) (hts _ (List.mem_cons_of_mem _ wt_158)) (fun _ h9 => h9) rfl dX4_isEnough_24 ?_
          refine ro_i (roV_run (As := []) (rest := [.int (nI t)]) hx hb hml hown hts Tg_M (c_X3_size l D G _ (ad 12) (ad 13) 6 (n 5) (f 5)) lk_RX4_62 ⟨rfl, rfl, Nat.le_of_ble_eq_true rfl, Nat.le_of_ble_eq_true rfl⟩ hP hK [1, 2] rfl 1 2 rfl rfl rfl rfl hl rfl (Nat.le_of_ble_eq_true rfl) dX4_isEnough_27 ⟨Nat.le_of_ble_eq_true rfl, Nat.le_of_ble_eq_true rfl⟩) hS hA (fun locs hS => ?_)
          refine n_icmp_ge (tgt := 57) hx hb dX4_isEnough_30 (by decide) (by omega) (by omega) (fun c_30 => ?_) (fun c_30 => ?_)
          · refine lv_iconst (v := nI (0)) hx hb dX4_isEnough_57 (by decide) ?_
            exact ro_zret hx hb hr hlocks hS dX4_isEnough_58 (rfl) (bI_of_f (by rw [enS, decide_eq_false (by omega), Bool.false_or]; exact decide_eq_false (fun ⟨u, h1, h2⟩ => absurd ((ha u (by omega)).symm.trans h2) (by decide))))
          · refine lv_aload_n hx hb dX4_isEnough_33 rfl (lv_at hl 0 rfl) ?_
            refine lv_iload hx hb dX4_isEnough_34 (lv_at hl 6 rfl) ?_
            refine lv_iload_n hx hb dX4_isEnough_36 rfl (lv_at hl 1 rfl) ?_
            refine lv_iload_n hx hb dX4_isEnough_37 rfl (lv_at hl 2 rfl) ?_
            refine lv_iload_n hx hb dX4_isEnough_38 rfl (lv_at hl 3 rfl) ?_
            refine lv_iload hx hb dX4_isEnough_39 (lv_at hl 4 rfl) ?_
            refine lv_iload hx hb dX4_isEnough_41 (lv_at hl 5 rfl) ?_
            refine ro_i (roV_run (As := [.int (nI t), .int (nI lo), .int (nI hi), .int (nI mm), .int (nI 3), .int (nI plan)]) (rest := []) hx hb hml hown hts Tg_M (c_X4_isEnoughBy3 l D G _ ad n f k b tr t q lo hi mm plan lk c_30 hI0 hlo hhi hm hp hpd) lk_RX4_220 ⟨rfl, rfl, Nat.le_of_ble_eq_true rfl, Nat.le_of_ble_eq_true rfl⟩ hP hK [0, 1, 2, 3, 4, 5] rfl 0 3 rfl rfl rfl rfl hl rfl (Nat.le_of_ble_eq_true rfl) dX4_isEnough_43 ⟨Nat.le_of_ble_eq_true rfl, Nat.le_of_ble_eq_true rfl⟩) hS hA (fun locs hS => ?_)
            refine b_if_eq (tgt := 51) hx hb dX4_isEnough_46 (by decide) (fun c_46 => ?_) (fun c_46 => ?_)
            · refine lv_iinc (v := nI (t + 1)) (lv' := [(6, .int (nI (t + 1))), (0, .ref (ad 0)), (1, .int (nI lo)), (2, .int (nI hi)), (3, .int (nI mm)), (4, .int (nI 3)), (5, .int (nI plan))]) hx hb dX4_isEnough_51 hl (k := 6) rfl (nI_inc _ _) (by decide) rfl (fun ls hl => ?_)
              refine lv_goto (tgt := 21) hx hb dX4_isEnough_54 (by decide) ?_
              exact ih_2 (t + 1) (by omega) (lt_s ha c_46) (by omega) locs hS _ (lv_sub hl [1, 2, 3, 4, 5, 6, 0] rfl)
            · refine lv_iconst (v := nI (1)) hx hb dX4_isEnough_49 (by decide) ?_
              exact ro_zret hx hb hr hlocks hS dX4_isEnough_50 (rfl) (bI_of_t (by rw [enS, show anyB (n 5) _ = true from decide_eq_true ⟨t, c_30, c_46⟩, Bool.or_true]))
      exact loop_1 (n 5 - 0 + 1) (0) (by omega) (fun u hu => absurd hu (Nat.not_lt_zero u)) (Nat.lt_succ_self _) locs hS _ (lv_sub hl [1, 2, 3, 4, 5, 6, 0] rfl)
    · exact absurd c_13 (by decide)
  · refine lv_iconst (v := nI (1)) hx hb dX4_isEnough_9 (by decide) ?_
    exact ro_zret hx hb hr hlocks hS dX4_isEnough_10 (rfl) (bI_of_t (by rw [enS, decide_eq_true c_6]; rfl))

set_option maxHeartbeats 4000000 in
set_option maxRecDepth 100000 in
theorem c_X4_enough (l : Launch) (D : va_G) (G : ClassId × ClassId × ClassId) (H0 : Heap) (ad n : Nat → Nat) (f : Nat → Nat → Nat) (k : Nat → Nat) (b : Nat → Bool) (tr : Int64) (q : Nat) (a a2 : Int32) (hI : XI n f k q) : Met l yX4_enough (wM yX4_enough cX4_enough 6 (some .int)) (rmD 11) (rP D G [.ref (ad 0), .int (a), .int (a2)] [(ad 0, .inr (3, [.ref (ad 1), .ref (ad 10), .ref (ad 12), .ref (ad 14), .ref (ad 16), .ref (ad 21), .ref (ad 26), .int (bI (b 1)), .int (bI (b 2)), .long (tr)])), (ad 10, .inr (2, [.ref (ad 11), .int (nI (n 4))])), (ad 11, .inl (G.1, 5, .inl (nF (f 4)))), (ad 12, .inr (2, [.ref (ad 13), .int (nI (n 5))])), (ad 13, .inl (G.1, 6, .inl (nF (f 5)))), (ad 16, .inr (0, [.ref (ad 17), .ref (ad 19), .int (nI (k 5))])), (ad 17, .inr (2, [.ref (ad 18), .int (nI (n 7))])), (ad 18, .inl (G.1, 6, .inl (nF (f 7)))), (ad 19, .inr (2, [.ref (ad 20), .int (nI (6 * n 8))])), (ad 20, .inl (G.1, 72, .inl (nF (f 8))))] H0) (rQi (spEnough n f k a a2) H0) 0 0 (rF H0) := by
  refine ro_start (Qc := fun H0 => (rQi (spEnough n f k a a2) H0)) (by decide) (Nat.le_of_ble_eq_true rfl) ?_
  intro p e s m args below meth c hx hb hr hts hown hlocks hml hP hK hA hH0 ls hl locs hS
  have hl : lv_has ls 6 [(0, .ref (ad 0)), (1, .int (a)), (2, .int (a2))] := hl
  have hI0 := hI
  obtain ⟨i4, i5, i6, iq, iw, il, i7, i8, ih9, ik, iF⟩ := hI
  refine lv_aload_n hx hb dX4_enough_0 rfl (lv_at hl 0 rfl) ?_
  refine lv_iload_n hx hb dX4_enough_1 rfl (lv_at hl 1 rfl) ?_
  refine ro_i (roV_run (As := [.int (a)]) (rest := []) hx hb hml hown hts Tg_M (c_X4_isLoad l D G _ ad n f k b tr (a) ) lk_RX4_98 ⟨rfl, rfl, Nat.le_of_ble_eq_true rfl, Nat.le_of_ble_eq_true rfl⟩ hP hK [0, 1, 2] rfl 0 3 rfl rfl rfl rfl hl rfl (Nat.le_of_ble_eq_true rfl) dX4_enough_2 ⟨Nat.le_of_ble_eq_true rfl, Nat.le_of_ble_eq_true rfl⟩) hS hA (fun locs hS => ?_)
  refine b_if_eq (tgt := 18) hx hb dX4_enough_5 (by decide) (fun c_5 => ?_) (fun c_5 => ?_)
  · have e_j := ix_no c_5
    refine lv_iconst (v := (-1)) hx hb dX4_enough_18 (by decide) ?_
    exact ro_iret hx hb hr hlocks hS dX4_enough_19 (by simp only [spEnough, e_j, Option.elim])
  · obtain ⟨j, h_j, rfl⟩ := hasB_N (by omega) c_5
    have e_j := ix_yes h_j (show n 4 < 2 ^ 31 by omega)
    refine lv_iload_n hx hb dX4_enough_8 rfl (lv_at hl 2 rfl) ?_
    refine lv_iconst (v := nI (1)) hx hb dX4_enough_9 (by decide) ?_
    refine lv_bipush (v := nI (61)) hx hb dX4_enough_10 (by decide) ?_
    refine ro_i (roS_run (As := [.int (a2), .int (nI 1), .int (nI 61)]) (rest := []) hx hb hml hown hts Tg_M (c_X4_isWithin l D G _ (a2) (nI (1)) (nI (61))) lk_RX4_55 ⟨rfl, rfl, Nat.le_of_ble_eq_true rfl, Nat.le_of_ble_eq_true rfl⟩ hP hK [] rfl rfl hl rfl (Nat.le_of_ble_eq_true rfl) dX4_enough_12 ⟨Nat.le_of_ble_eq_true rfl, Nat.le_of_ble_eq_true rfl⟩) hS hA (fun locs hS => ?_)
    refine b_if_ne (tgt := 20) hx hb dX4_enough_15 (by decide) (fun c_15 => ?_) (fun c_15 => ?_)
    · obtain ⟨mm, g_mm, h_mm, rfl⟩ := inR_N (by decide) (by decide) c_15
      have e_mm := ir_yes g_mm h_mm (by decide)
      have z_j := lo_hi hI0 h_j
      have y_j := hiP_le (canW f (n 8) j)
      have x_j := loP_le (canW f (n 8) j)
      refine lv_aload_n hx hb dX4_enough_20 rfl (lv_at hl 0 rfl) ?_
      refine lv_iload_n hx hb dX4_enough_21 rfl (lv_at hl 1 rfl) ?_
      refine ro_i (roV_run (As := [.int (nI j)]) (rest := []) hx hb hml hown hts Tg_M (c_X4_leastOf l D G _ ad n f k b tr q j hI0 (by omega)) lk_RX4_158 ⟨rfl, rfl, Nat.le_of_ble_eq_true rfl, Nat.le_of_ble_eq_true rfl⟩ hP hK [0, 3, 4, 5, 8, 9] rfl 0 3 rfl rfl rfl rfl hl rfl (Nat.le_of_ble_eq_true rfl) dX4_enough_22 ⟨Nat.le_of_ble_eq_true rfl, Nat.le_of_ble_eq_true rfl⟩) hS hA (fun locs hS => ?_)
      refine lv_istore_n (lv' := [(3, .int (nI (loP (canW f (n 8) j)))), (0, .ref (ad 0)), (1, .int (nI j)), (2, .int (nI mm))]) hx hb dX4_enough_25 rfl hl (by decide) rfl (fun ls hl => ?_)
      refine lv_aload_n hx hb dX4_enough_26 rfl (lv_at hl 1 rfl) ?_
      refine lv_iload_n hx hb dX4_enough_27 rfl (lv_at hl 2 rfl) ?_
      refine ro_i (roV_run (As := [.int (nI j)]) (rest := []) hx hb hml hown hts Tg_M (c_X4_greatestOf l D G _ ad n f k b tr q j hI0 (by omega)) lk_RX4_155 ⟨rfl, rfl, Nat.le_of_ble_eq_true rfl, Nat.le_of_ble_eq_true rfl⟩ hP hK [0, 3, 4, 5, 8, 9] rfl 0 3 rfl rfl rfl rfl hl rfl (Nat.le_of_ble_eq_true rfl) dX4_enough_28 ⟨Nat.le_of_ble_eq_true rfl, Nat.le_of_ble_eq_true rfl⟩) hS hA (fun locs hS => ?_)
      refine lv_istore (lv' := [(4, .int (nI (hiP (canW f (n 8) j)))), (3, .int (nI (loP (canW f (n 8) j)))), (0, .ref (ad 0)), (1, .int (nI j)), (2, .int (nI mm))]) hx hb dX4_enough_31 hl (by decide) rfl (fun ls hl => ?_)
      refine lv_iconst (v := nI (0)) hx hb dX4_enough_33 (by decide) ?_
      refine lv_istore (lv' := [(5, .int (nI 0)), (4, .int (nI (hiP (canW f (n 8) j)))), (3, .int (nI (loP (canW f (n 8) j)))), (0, .ref (ad 0)), (1, .int (nI j)), (2, .int (nI mm))]) hx hb dX4_enough_34 hl (by decide) rfl (fun ls hl => ?_)
      refine lv_iload hx hb dX4_enough_36 (lv_at hl 0 rfl) ?_
      refine lv_iconst (v := nI (3)) hx hb dX4_enough_38 (by decide) ?_
      refine n_icmp_gt (tgt := 65) hx hb dX4_enough_39 (by decide) (by omega) (by omega) (fun c_39 => ?_) (fun c_39 => ?_)
      · exact absurd c_39 (by decide)
      · refine lv_aload_n hx hb dX4_enough_42 rfl (lv_at hl 3 rfl) ?_
        refine lv_iload_n hx hb dX4_enough_43 rfl (lv_at hl 2 rfl) ?_
        refine lv_iload hx hb dX4_enough_44 (lv_at hl 1 rfl) ?_
        refine lv_iload_n hx hb dX4_enough_46 rfl (lv_at hl 5 rfl) ?_
        refine lv_iload hx hb dX4_enough_47 (lv_at hl 0 rfl) ?_
        refine lv_iconst (v := nI (0)) hx hb dX4_enough_49 (by decide) ?_
        refine ro_i (roV_run (As := [.int (nI (loP (canW f (n 8) j))), .int (nI (hiP (canW f (n 8) j))), .int (nI mm), .int (nI 0), .int (nI 0)]) (rest := []) hx hb hml hown hts Tg_M (c_X4_isEnough0 l D G _ ad n f k b tr q (loP (canW f (n 8) j)) (hiP (canW f (n 8) j)) mm 0 (f 7) hI0 (by omega) (by omega) (by omega) (by omega) (fun u hu => ⟨by rw [pd0]; omega, by rw [pd0]; rfl⟩)) lk_RX4_165 ⟨rfl, rfl, Nat.le_of_ble_eq_true rfl, Nat.le_of_ble_eq_true rfl⟩ hP hK [0, 3, 4, 5, 6, 7] rfl 0 3 rfl rfl rfl rfl hl rfl (Nat.le_of_ble_eq_true rfl) dX4_enough_50 ⟨Nat.le_of_ble_eq_true rfl, Nat.le_of_ble_eq_true rfl⟩) hS hA (fun locs hS => ?_)
        refine b_if_eq (tgt := 59) hx hb dX4_enough_53 (by decide) (fun c_53 => ?_) (fun c_53 => ?_)
        · refine lv_iinc (v := nI (1)) (lv' := [(5, .int (nI 1)), (4, .int (nI (hiP (canW f (n 8) j)))), (3, .int (nI (loP (canW f (n 8) j)))), (0, .ref (ad 0)), (1, .int (nI j)), (2, .int (nI mm))]) hx hb dX4_enough_59 hl (k := 0) rfl (nI_inc 0 1) (by decide) rfl (fun ls hl => ?_)
          refine lv_goto (tgt := 36) hx hb dX4_enough_62 (by decide) ?_
          refine lv_iload hx hb dX4_enough_36 (lv_at hl 0 rfl) ?_
          refine lv_iconst (v := nI (3)) hx hb dX4_enough_38 (by decide) ?_
          refine n_icmp_gt (tgt := 65) hx hb dX4_enough_39 (by decide) (by omega) (by omega) (fun c_39_1 => ?_) (fun c_39_1 => ?_)
          · exact absurd c_39_1 (by decide)
          · refine lv_aload_n hx hb dX4_enough_42 rfl (lv_at hl 3 rfl) ?_
            refine lv_iload_n hx hb dX4_enough_43 rfl (lv_at hl 2 rfl) ?_
            refine lv_iload hx hb dX4_enough_44 (lv_at hl 1 rfl) ?_
            refine lv_iload_n hx hb dX4_enough_46 rfl (lv_at hl 5 rfl) ?_
            refine lv_iload hx hb dX4_enough_47 (lv_at hl 0 rfl) ?_
            refine lv_iconst (v := nI (0)) hx hb dX4_enough_49 (by decide) ?_
            refine ro_i (roV_run (As := [.int (nI (loP (canW f (n 8) j))), .int (nI (hiP (canW f (n 8) j))), .int (nI mm), .int (nI 1), .int (nI 0)]) (rest := []) hx hb hml hown hts Tg_M (c_X4_isEnough1 l D G _ ad n f k b tr q (loP (canW f (n 8) j)) (hiP (canW f (n 8) j)) mm 0 (f 7) hI0 (by omega) (by omega) (by omega) (by omega) (fun u hu => ⟨by rw [pd0]; omega, by rw [pd0]; rfl⟩)) lk_RX4_165 ⟨rfl, rfl, Nat.le_of_ble_eq_true rfl, Nat.le_of_ble_eq_true rfl⟩ hP hK [0, 3, 4, 5, 6, 7] rfl 0 3 rfl rfl rfl rfl hl rfl (Nat.le_of_ble_eq_true rfl) dX4_enough_50 ⟨Nat.le_of_ble_eq_true rfl, Nat.le_of_ble_eq_true rfl⟩) hS hA (fun locs hS => ?_)
            refine b_if_eq (tgt := 59) hx hb dX4_enough_53 (by decide) (fun c_53_2 => ?_) (fun c_53_2 => ?_)
            · refine lv_iinc (v := nI (2)) (lv' := [(5, .int (nI 2)), (4, .int (nI (hiP (canW f (n 8) j)))), (3, .int (nI (loP (canW f (n 8) j)))), (0, .ref (ad 0)), (1, .int (nI j)), (2, .int (nI mm))]) hx hb dX4_enough_59 hl (k := 0) rfl (nI_inc 1 1) (by decide) rfl (fun ls hl => ?_)
              refine lv_goto (tgt := 36) hx hb dX4_enough_62 (by decide) ?_
              refine lv_iload hx hb dX4_enough_36 (lv_at hl 0 rfl) ?_
              refine lv_iconst (v := nI (3)) hx hb dX4_enough_38 (by decide) ?_
              refine n_icmp_gt (tgt := 65) hx hb dX4_enough_39 (by decide) (by omega) (by omega) (fun c_39_3 => ?_) (fun c_39_3 => ?_)
              · exact absurd c_39_3 (by decide)
              · refine lv_aload_n hx hb dX4_enough_42 rfl (lv_at hl 3 rfl) ?_
                refine lv_iload_n hx hb dX4_enough_43 rfl (lv_at hl 2 rfl) ?_
                refine lv_iload hx hb dX4_enough_44 (lv_at hl 1 rfl) ?_
                refine lv_iload_n hx hb dX4_enough_46 rfl (lv_at hl 5 rfl) ?_
                refine lv_iload hx hb dX4_enough_47 (lv_at hl 0 rfl) ?_
                refine lv_iconst (v := nI (0)) hx hb dX4_enough_49 (by decide) ?_
                refine ro_i (roV_run (As := [.int (nI (loP (canW f (n 8) j))), .int (nI (hiP (canW f (n 8) j))), .int (nI mm), .int (nI 2), .int (nI 0)]) (rest := []) hx hb hml hown hts Tg_M (c_X4_isEnough2 l D G _ ad n f k b tr q (loP (canW f (n 8) j)) (hiP (canW f (n 8) j)) mm 0 (f 7) hI0 (by omega) (by omega) (by omega) (by omega) (fun u hu => ⟨by rw [pd0]; omega, by rw [pd0]; rfl⟩)) lk_RX4_165 ⟨rfl, rfl, Nat.le_of_ble_eq_true rfl, Nat.le_of_ble_eq_true rfl⟩ hP hK [0, 3, 4, 5, 6, 7] rfl 0 3 rfl rfl rfl rfl hl rfl (Nat.le_of_ble_eq_true rfl) dX4_enough_50 ⟨Nat.le_of_ble_eq_true rfl, Nat.le_of_ble_eq_true rfl⟩) hS hA (fun locs hS => ?_)
                refine b_if_eq (tgt := 59) hx hb dX4_enough_53 (by decide) (fun c_53_4 => ?_) (fun c_53_4 => ?_)
                · refine lv_iinc (v := nI (3)) (lv' := [(5, .int (nI 3)), (4, .int (nI (hiP (canW f (n 8) j)))), (3, .int (nI (loP (canW f (n 8) j)))), (0, .ref (ad 0)), (1, .int (nI j)), (2, .int (nI mm))]) hx hb dX4_enough_59 hl (k := 0) rfl (nI_inc 2 1) (by decide) rfl (fun ls hl => ?_)
                  refine lv_goto (tgt := 36) hx hb dX4_enough_62 (by decide) ?_
                  refine lv_iload hx hb dX4_enough_36 (lv_at hl 0 rfl) ?_
                  refine lv_iconst (v := nI (3)) hx hb dX4_enough_38 (by decide) ?_
                  refine n_icmp_gt (tgt := 65) hx hb dX4_enough_39 (by decide) (by omega) (by omega) (fun c_39_5 => ?_) (fun c_39_5 => ?_)
                  · exact absurd c_39_5 (by decide)
                  · refine lv_aload_n hx hb dX4_enough_42 rfl (lv_at hl 3 rfl) ?_
                    refine lv_iload_n hx hb dX4_enough_43 rfl (lv_at hl 2 rfl) ?_
                    refine lv_iload hx hb dX4_enough_44 (lv_at hl 1 rfl) ?_
                    refine lv_iload_n hx hb dX4_enough_46 rfl (lv_at hl 5 rfl) ?_
                    refine lv_iload hx hb dX4_enough_47 (lv_at hl 0 rfl) ?_
                    refine lv_iconst (v := nI (0)) hx hb dX4_enough_49 (by decide) ?_
                    refine ro_i (roV_run (As := [.int (nI (loP (canW f (n 8) j))), .int (nI (hiP (canW f (n 8) j))), .int (nI mm), .int (nI 3), .int (nI 0)]) (rest := []) hx hb hml hown hts Tg_M (c_X4_isEnough3 l D G _ ad n f k b tr q (loP (canW f (n 8) j)) (hiP (canW f (n 8) j)) mm 0 (f 7) hI0 (by omega) (by omega) (by omega) (by omega) (fun u hu => ⟨by rw [pd0]; omega, by rw [pd0]; rfl⟩)) lk_RX4_165 ⟨rfl, rfl, Nat.le_of_ble_eq_true rfl, Nat.le_of_ble_eq_true rfl⟩ hP hK [0, 3, 4, 5, 6, 7] rfl 0 3 rfl rfl rfl rfl hl rfl (Nat.le_of_ble_eq_true rfl) dX4_enough_50 ⟨Nat.le_of_ble_eq_true rfl, Nat.le_of_ble_eq_true rfl⟩) hS hA (fun locs hS => ?_)
                    refine b_if_eq (tgt := 59) hx hb dX4_enough_53 (by decide) (fun c_53_6 => ?_) (fun c_53_6 => ?_)
                    · refine lv_iinc (v := nI (4)) (lv' := [(5, .int (nI 4)), (4, .int (nI (hiP (canW f (n 8) j)))), (3, .int (nI (loP (canW f (n 8) j)))), (0, .ref (ad 0)), (1, .int (nI j)), (2, .int (nI mm))]) hx hb dX4_enough_59 hl (k := 0) rfl (nI_inc 3 1) (by decide) rfl (fun ls hl => ?_)
                      refine lv_goto (tgt := 36) hx hb dX4_enough_62 (by decide) ?_
                      refine lv_iload hx hb dX4_enough_36 (lv_at hl 0 rfl) ?_
                      refine lv_iconst (v := nI (3)) hx hb dX4_enough_38 (by decide) ?_
                      refine n_icmp_gt (tgt := 65) hx hb dX4_enough_39 (by decide) (by omega) (by omega) (fun c_39_7 => ?_) (fun c_39_7 => ?_)
                      · refine lv_bipush (v := (-9)) hx hb dX4_enough_65 (by decide) ?_
                        exact ro_iret hx hb hr hlocks hS dX4_enough_67 (by simp only [spEnough, e_j, e_mm, Option.elim]; rw [if_neg (by rw [c_53]; decide), if_neg (by rw [c_53_2]; decide), if_neg (by rw [c_53_4]; decide), if_neg (by rw [c_53_6]; decide)])
                      · exact absurd c_39_7 (by decide)
                    · refine lv_iload hx hb dX4_enough_56 (lv_at hl 0 rfl) ?_
                      exact ro_iret hx hb hr hlocks hS dX4_enough_58 (by simp only [spEnough, e_j, e_mm, Option.elim]; rw [if_neg (by rw [c_53]; decide), if_neg (by rw [c_53_2]; decide), if_neg (by rw [c_53_4]; decide), if_pos c_53_6]; rfl)
                · refine lv_iload hx hb dX4_enough_56 (lv_at hl 0 rfl) ?_
                  exact ro_iret hx hb hr hlocks hS dX4_enough_58 (by simp only [spEnough, e_j, e_mm, Option.elim]; rw [if_neg (by rw [c_53]; decide), if_neg (by rw [c_53_2]; decide), if_pos c_53_4]; rfl)
            · refine lv_iload hx hb dX4_enough_56 (lv_at hl 0 rfl) ?_
              exact ro_iret hx hb hr hlocks hS dX4_enough_58 (by simp only [spEnough, e_j, e_mm, Option.elim]; rw [if_neg (by rw [c_53]; decide), if_pos c_53_2]; rfl)
        · refine lv_iload hx hb dX4_enough_56 (lv_at hl 0 rfl) ?_
          exact ro_iret hx hb hr hlocks hS dX4_enough_58 (by simp only [spEnough, e_j, e_mm, Option.elim]; rw [if_pos c_53]; rfl)
    · have e_mm := ir_no c_15
      refine lv_iconst (v := (-1)) hx hb dX4_enough_18 (by decide) ?_
      exact ro_iret hx hb hr hlocks hS dX4_enough_19 (by simp only [spEnough, e_j, e_mm, Option.elim])

set_option maxHeartbeats 4000000 in
set_option maxRecDepth 100000 in
theorem c_X4_toldTastings (l : Launch) (D : va_G) (G : ClassId × ClassId × ClassId) (H0 : Heap) (ad n : Nat → Nat) (f : Nat → Nat → Nat) (k : Nat → Nat) (b : Nat → Bool) (tr : Int64) (h6 : n 6 ≤ 8) : Met l yX4_toldTastings (wM yX4_toldTastings cX4_toldTastings 1 (some .int)) (rmD 2) (rP D G [.ref (ad 0)] [(ad 0, .inr (3, [.ref (ad 1), .ref (ad 10), .ref (ad 12), .ref (ad 14), .ref (ad 16), .ref (ad 21), .ref (ad 26), .int (bI (b 1)), .int (bI (b 2)), .long (tr)])), (ad 14, .inr (2, [.ref (ad 15), .int (nI (4 * n 6))])), (ad 15, .inl (G.1, 32, .inl (nF (f 6))))] H0) (rQi (nI (n 6)) H0) 0 0 (rF H0) := by
  refine ro_start (Qc := fun H0 => (rQi (nI (n 6)) H0)) (by decide) (Nat.le_of_ble_eq_true rfl) ?_
  intro p e s m args below meth c hx hb hr hts hown hlocks hml hP hK hA hH0 ls hl locs hS
  have hl : lv_has ls 1 [(0, .ref (ad 0))] := hl
  refine lv_aload_n hx hb dX4_toldTastings_0 rfl (lv_at hl 0 rfl) ?_
  refine va_get (D := D) (ci := 3) (v := .ref (ad 14)) (C := RX4) (T := TX4) (N := 10) hx hb hts (iX4) hown hK hP 0 rfl rfl 3 (by decide) (hts _ (List.mem_cons_of_mem _ wt_159)) (fun _ h9 => h9) rfl dX4_toldTastings_1 ?_
  refine ro_i (roV_run (As := []) (rest := []) hx hb hml hown hts Tg_M (c_X3_size l D G _ (ad 14) (ad 15) 32 (4 * n 6) (f 6)) lk_RX4_62 ⟨rfl, rfl, Nat.le_of_ble_eq_true rfl, Nat.le_of_ble_eq_true rfl⟩ hP hK [1, 2] rfl 1 2 rfl rfl rfl rfl hl rfl (Nat.le_of_ble_eq_true rfl) dX4_toldTastings_4 ⟨Nat.le_of_ble_eq_true rfl, Nat.le_of_ble_eq_true rfl⟩) hS hA (fun locs hS => ?_)
  refine lv_iconst (v := nI (4)) hx hb dX4_toldTastings_7 (by decide) ?_
  refine n_idiv hx hb dX4_toldTastings_8 (by omega) (by omega) (by omega) ?_
  refine n_tope (show nI ((4 * n 6) / 4) = nI (n 6) from by rw [Nat.mul_div_cancel_left _ (by decide)]) ?_
  exact ro_iret hx hb hr hlocks hS dX4_toldTastings_9 (rfl)

set_option maxHeartbeats 4000000 in
set_option maxRecDepth 100000 in
theorem c_X4_isAsTold (l : Launch) (D : va_G) (G : ClassId × ClassId × ClassId) (H0 : Heap) (ad n : Nat → Nat) (f : Nat → Nat → Nat) (k : Nat → Nat) (b : Nat → Bool) (tr : Int64) (law : Nat) (hT : TI n f) (hlaw : law < 3240) : Met l yX4_isAsTold (wM yX4_isAsTold cX4_isAsTold 4 (some .boolean)) (rmD 3) (rP D G [.ref (ad 0), .int (nI law)] [(ad 0, .inr (3, [.ref (ad 1), .ref (ad 10), .ref (ad 12), .ref (ad 14), .ref (ad 16), .ref (ad 21), .ref (ad 26), .int (bI (b 1)), .int (bI (b 2)), .long (tr)])), (ad 14, .inr (2, [.ref (ad 15), .int (nI (4 * n 6))])), (ad 15, .inl (G.1, 32, .inl (nF (f 6))))] H0) (rQi (bI (tolP n f law)) H0) 0 0 (rF H0) := by
  refine ro_start (Qc := fun H0 => (rQi (bI (tolP n f law)) H0)) (by decide) (Nat.le_of_ble_eq_true rfl) ?_
  intro p e s m args below meth c hx hb hr hts hown hlocks hml hP hK hA hH0 ls hl locs hS
  have hl : lv_has ls 4 [(0, .ref (ad 0)), (1, .int (nI law))] := hl
  have hT6 := hT.1
  refine lv_iconst (v := nI (0)) hx hb dX4_isAsTold_0 (by decide) ?_
  refine lv_istore_n (lv' := [(2, .int (nI 0)), (0, .ref (ad 0)), (1, .int (nI law))]) hx hb dX4_isAsTold_1 rfl hl (by decide) rfl (fun ls hl => ?_)
  have loop_1 : ∀ (fuel : Nat) (i : Nat), (i ≤ n 6) → (∀ u, u < i → drk law (f 6 (4 * u)) (f 6 (4 * u + 1)) (f 6 (4 * u + 2)) = f 6 (4 * u + 3)) → (n 6 - i) < fuel → ∀ (locs : List Loc), va_S (rF s.heap) s.heap s.heap locs → ∀ (ls : Array Slot), lv_has ls 4 [(0, .ref (ad 0)), (1, .int (nI law)), (2, .int (nI (4 * i)))] → W p l e (rmD 3) s m args below meth c s.heap locs 0 0 (MQ below (rQi (bI (tolP n f law)) s.heap) args s 0 0 (rF s.heap)) (F0 m 2 ls []) := by
    intro fuel
    induction fuel with
    | zero => intro i hi1 ha hfu; exact absurd hfu (Nat.not_lt_zero _)
    | succ fuel ih_2 =>
      intro i hi1 ha hfu locs hS ls hl
      refine lv_iload_n hx hb dX4_isAsTold_2 rfl (lv_at hl 2 rfl) ?_
      refine lv_aload_n hx hb dX4_isAsTold_3 rfl (lv_at hl 0 rfl) ?_
      refine va_get (D := D) (ci := 3) (v := .ref (ad 14)) (C := RX4) (T := TX4) (N := 10) hx hb hts (iX4) hown hK hP 0 rfl rfl 3 (by decide) (hts _ (List.mem_cons_of_mem _ wt_159)) (fun _ h9 => h9) rfl dX4_isAsTold_4 ?_
      refine ro_i (roV_run (As := []) (rest := [.int (nI (4 * i))]) hx hb hml hown hts Tg_M (c_X3_size l D G _ (ad 14) (ad 15) 32 (4 * n 6) (f 6)) lk_RX4_62 ⟨rfl, rfl, Nat.le_of_ble_eq_true rfl, Nat.le_of_ble_eq_true rfl⟩ hP hK [1, 2] rfl 1 2 rfl rfl rfl rfl hl rfl (Nat.le_of_ble_eq_true rfl) dX4_isAsTold_7 ⟨Nat.le_of_ble_eq_true rfl, Nat.le_of_ble_eq_true rfl⟩) hS hA (fun locs hS => ?_)
      refine n_icmp_ge (tgt := 68) hx hb dX4_isAsTold_10 (by decide) (by omega) (by omega) (fun c_10 => ?_) (fun c_10 => ?_)
      · refine lv_iconst (v := nI (1)) hx hb dX4_isAsTold_68 (by decide) ?_
        exact ro_zret hx hb hr hlocks hS dX4_isAsTold_69 (rfl) (bI_of_t (decide_eq_true (fun u hu => ha u (by omega))))
      · have eT := hT.2 i (by omega)
        have eD := drk_lt hlaw eT.1 (show f 6 (4 * i + 1) ≤ 4096 by omega) eT.2.2.1
        refine lv_iload_n hx hb dX4_isAsTold_13 rfl (lv_at hl 1 rfl) ?_
        refine lv_aload_n hx hb dX4_isAsTold_14 rfl (lv_at hl 0 rfl) ?_
        refine va_get (D := D) (ci := 3) (v := .ref (ad 14)) (C := RX4) (T := TX4) (N := 10) hx hb hts (iX4) hown hK hP 0 rfl rfl 3 (by decide) (hts _ (List.mem_cons_of_mem _ wt_159)) (fun _ h9 => h9) rfl dX4_isAsTold_15 ?_
        refine lv_iload_n hx hb dX4_isAsTold_18 rfl (lv_at hl 2 rfl) ?_
        refine ro_i (roV_run (As := [.int (nI (4 * i))]) (rest := [.int (nI law)]) hx hb hml hown hts Tg_M (c_X3_at l D G _ (ad 14) (ad 15) 32 (4 * n 6) (f 6) (4 * i) (by omega) (by omega) (by omega)) lk_RX4_102 ⟨rfl, rfl, Nat.le_of_ble_eq_true rfl, Nat.le_of_ble_eq_true rfl⟩ hP hK [1, 2] rfl 1 2 rfl rfl rfl rfl hl rfl (Nat.le_of_ble_eq_true rfl) dX4_isAsTold_19 ⟨Nat.le_of_ble_eq_true rfl, Nat.le_of_ble_eq_true rfl⟩) hS hA (fun locs hS => ?_)
        refine lv_aload_n hx hb dX4_isAsTold_22 rfl (lv_at hl 0 rfl) ?_
        refine va_get (D := D) (ci := 3) (v := .ref (ad 14)) (C := RX4) (T := TX4) (N := 10) hx hb hts (iX4) hown hK hP 0 rfl rfl 3 (by decide) (hts _ (List.mem_cons_of_mem _ wt_159)) (fun _ h9 => h9) rfl dX4_isAsTold_23 ?_
        refine lv_iload_n hx hb dX4_isAsTold_26 rfl (lv_at hl 2 rfl) ?_
        refine lv_iconst (v := nI (1)) hx hb dX4_isAsTold_27 (by decide) ?_
        refine n_iadd hx hb dX4_isAsTold_28 ?_
        refine ro_i (roV_run (As := [.int (nI ((4 * i) + 1))]) (rest := [.int (nI ((f 6) (4 * i))), .int (nI law)]) hx hb hml hown hts Tg_M (c_X3_at l D G _ (ad 14) (ad 15) 32 (4 * n 6) (f 6) ((4 * i) + 1) (by omega) (by omega) (by omega)) lk_RX4_102 ⟨rfl, rfl, Nat.le_of_ble_eq_true rfl, Nat.le_of_ble_eq_true rfl⟩ hP hK [1, 2] rfl 1 2 rfl rfl rfl rfl hl rfl (Nat.le_of_ble_eq_true rfl) dX4_isAsTold_29 ⟨Nat.le_of_ble_eq_true rfl, Nat.le_of_ble_eq_true rfl⟩) hS hA (fun locs hS => ?_)
        refine lv_aload_n hx hb dX4_isAsTold_32 rfl (lv_at hl 0 rfl) ?_
        refine va_get (D := D) (ci := 3) (v := .ref (ad 14)) (C := RX4) (T := TX4) (N := 10) hx hb hts (iX4) hown hK hP 0 rfl rfl 3 (by decide) (hts _ (List.mem_cons_of_mem _ wt_159)) (fun _ h9 => h9) rfl dX4_isAsTold_33 ?_
        refine lv_iload_n hx hb dX4_isAsTold_36 rfl (lv_at hl 2 rfl) ?_
        refine lv_iconst (v := nI (2)) hx hb dX4_isAsTold_37 (by decide) ?_
        refine n_iadd hx hb dX4_isAsTold_38 ?_
        refine ro_i (roV_run (As := [.int (nI ((4 * i) + 2))]) (rest := [.int (nI ((f 6) ((4 * i) + 1))), .int (nI ((f 6) (4 * i))), .int (nI law)]) hx hb hml hown hts Tg_M (c_X3_at l D G _ (ad 14) (ad 15) 32 (4 * n 6) (f 6) ((4 * i) + 2) (by omega) (by omega) (by omega)) lk_RX4_102 ⟨rfl, rfl, Nat.le_of_ble_eq_true rfl, Nat.le_of_ble_eq_true rfl⟩ hP hK [1, 2] rfl 1 2 rfl rfl rfl rfl hl rfl (Nat.le_of_ble_eq_true rfl) dX4_isAsTold_39 ⟨Nat.le_of_ble_eq_true rfl, Nat.le_of_ble_eq_true rfl⟩) hS hA (fun locs hS => ?_)
        refine ro_i (roS_run (As := [.int (nI law), .int (nI ((f 6) (4 * i))), .int (nI ((f 6) ((4 * i) + 1))), .int (nI ((f 6) ((4 * i) + 2)))]) (rest := []) hx hb hml hown hts Tg_M (c_X0_drinks l D G _ law ((f 6) (4 * i)) ((f 6) ((4 * i) + 1)) ((f 6) ((4 * i) + 2)) hlaw (by omega) (by omega) (by omega)) lk_RX4_122 ⟨rfl, rfl, Nat.le_of_ble_eq_true rfl, Nat.le_of_ble_eq_true rfl⟩ hP hK [] rfl rfl hl rfl (Nat.le_of_ble_eq_true rfl) dX4_isAsTold_42 ⟨Nat.le_of_ble_eq_true rfl, Nat.le_of_ble_eq_true rfl⟩) hS hA (fun locs hS => ?_)
        refine lv_istore_n (lv' := [(3, .int (nI (drk law ((f 6) (4 * i)) ((f 6) ((4 * i) + 1)) ((f 6) ((4 * i) + 2))))), (0, .ref (ad 0)), (1, .int (nI law)), (2, .int (nI (4 * i)))]) hx hb dX4_isAsTold_45 rfl hl (by decide) rfl (fun ls hl => ?_)
        refine lv_iload_n hx hb dX4_isAsTold_46 rfl (lv_at hl 0 rfl) ?_
        refine lv_aload_n hx hb dX4_isAsTold_47 rfl (lv_at hl 1 rfl) ?_
        refine va_get (D := D) (ci := 3) (v := .ref (ad 14)) (C := RX4) (T := TX4) (N := 10) hx hb hts (iX4) hown hK hP 0 rfl rfl 3 (by decide) (hts _ (List.mem_cons_of_mem _ wt_159)) (fun _ h9 => h9) rfl dX4_isAsTold_48 ?_
        refine lv_iload_n hx hb dX4_isAsTold_51 rfl (lv_at hl 3 rfl) ?_
        refine lv_iconst (v := nI (3)) hx hb dX4_isAsTold_52 (by decide) ?_
        refine n_iadd hx hb dX4_isAsTold_53 ?_
        refine ro_i (roV_run (As := [.int (nI ((4 * i) + 3))]) (rest := [.int (nI (drk law ((f 6) (4 * i)) ((f 6) ((4 * i) + 1)) ((f 6) ((4 * i) + 2))))]) hx hb hml hown hts Tg_M (c_X3_at l D G _ (ad 14) (ad 15) 32 (4 * n 6) (f 6) ((4 * i) + 3) (by omega) (by omega) (by omega)) lk_RX4_102 ⟨rfl, rfl, Nat.le_of_ble_eq_true rfl, Nat.le_of_ble_eq_true rfl⟩ hP hK [1, 2] rfl 1 2 rfl rfl rfl rfl hl rfl (Nat.le_of_ble_eq_true rfl) dX4_isAsTold_54 ⟨Nat.le_of_ble_eq_true rfl, Nat.le_of_ble_eq_true rfl⟩) hS hA (fun locs hS => ?_)
        refine n_icmp_eq (tgt := 62) hx hb dX4_isAsTold_57 (by decide) (by omega) (by omega) (fun c_57 => ?_) (fun c_57 => ?_)
        · refine lv_iinc (v := nI ((4 * i) + 4)) (lv' := [(2, .int (nI ((4 * i) + 4))), (3, .int (nI (drk law ((f 6) (4 * i)) ((f 6) ((4 * i) + 1)) ((f 6) ((4 * i) + 2))))), (0, .ref (ad 0)), (1, .int (nI law))]) hx hb dX4_isAsTold_62 hl (k := 3) rfl (nI_inc _ _) (by decide) rfl (fun ls hl => ?_)
          refine lv_goto (tgt := 2) hx hb dX4_isAsTold_65 (by decide) ?_
          rw [show 4 * i + 4 = 4 * (i + 1) by omega] at hl
          exact ih_2 (i + 1) (by omega) (lt_s ha c_57) (by omega) locs hS _ (lv_sub hl [2, 3, 0] rfl)
        · refine lv_iconst (v := nI (0)) hx hb dX4_isAsTold_60 (by decide) ?_
          exact ro_zret hx hb hr hlocks hS dX4_isAsTold_61 (rfl) (bI_of_f (decide_eq_false (fun z => absurd (z i (by omega)) c_57)))
  exact loop_1 (n 6 - 0 + 1) (0) (Nat.zero_le _) (fun u hu => absurd hu (Nat.not_lt_zero u)) (Nat.lt_succ_self _) locs hS _ (lv_sub hl [1, 2, 0] rfl)

set_option maxHeartbeats 4000000 in
set_option maxRecDepth 100000 in
theorem c_X4_learnt (l : Launch) (D : va_G) (G : ClassId × ClassId × ClassId) (H0 : Heap) (ad n : Nat → Nat) (f : Nat → Nat → Nat) (k : Nat → Nat) (b : Nat → Bool) (tr : Int64) (a : Int32) (hT : TI n f) : Met l yX4_learnt (wM yX4_learnt cX4_learnt 4 (some .int)) (rmD 4) (rP D G [.ref (ad 0), .int (a)] [(ad 0, .inr (3, [.ref (ad 1), .ref (ad 10), .ref (ad 12), .ref (ad 14), .ref (ad 16), .ref (ad 21), .ref (ad 26), .int (bI (b 1)), .int (bI (b 2)), .long (tr)])), (ad 14, .inr (2, [.ref (ad 15), .int (nI (4 * n 6))])), (ad 15, .inl (G.1, 32, .inl (nF (f 6))))] H0) (rQi (spLearnt n f a) H0) 0 0 (rF H0) := by
  refine ro_start (Qc := fun H0 => (rQi (spLearnt n f a) H0)) (by decide) (Nat.le_of_ble_eq_true rfl) ?_
  intro p e s m args below meth c hx hb hr hts hown hlocks hml hP hK hA hH0 ls hl locs hS
  have hl : lv_has ls 4 [(0, .ref (ad 0)), (1, .int (a))] := hl
  refine lv_iload_n hx hb dX4_learnt_0 rfl (lv_at hl 1 rfl) ?_
  refine lv_iconst (v := nI (0)) hx hb dX4_learnt_1 (by decide) ?_
  refine lv_iconst (v := nI (4)) hx hb dX4_learnt_2 (by decide) ?_
  refine ro_i (roS_run (As := [.int (a), .int (nI 0), .int (nI 4)]) (rest := []) hx hb hml hown hts Tg_M (c_X4_isWithin l D G _ (a) (nI (0)) (nI (4))) lk_RX4_55 ⟨rfl, rfl, Nat.le_of_ble_eq_true rfl, Nat.le_of_ble_eq_true rfl⟩ hP hK [] rfl rfl hl rfl (Nat.le_of_ble_eq_true rfl) dX4_learnt_3 ⟨Nat.le_of_ble_eq_true rfl, Nat.le_of_ble_eq_true rfl⟩) hS hA (fun locs hS => ?_)
  refine b_if_ne (tgt := 11) hx hb dX4_learnt_6 (by decide) (fun c_6 => ?_) (fun c_6 => ?_)
  · obtain ⟨w, g_w, h_w, rfl⟩ := inR_N (by decide) (by decide) c_6
    have e_w := ir_yes g_w h_w (by decide)
    refine lv_iconst (v := nI (0)) hx hb dX4_learnt_11 (by decide) ?_
    refine lv_istore_n (lv' := [(2, .int (nI 0)), (0, .ref (ad 0)), (1, .int (nI w))]) hx hb dX4_learnt_12 rfl hl (by decide) rfl (fun ls hl => ?_)
    refine lv_iconst (v := nI (0)) hx hb dX4_learnt_13 (by decide) ?_
    refine lv_istore_n (lv' := [(3, .int (nI 0)), (2, .int (nI 0)), (0, .ref (ad 0)), (1, .int (nI w))]) hx hb dX4_learnt_14 rfl hl (by decide) rfl (fun ls hl => ?_)
    have loop_1 : ∀ (fuel : Nat) (fit : Nat) (law : Nat), (law ≤ 3240) → (fit ≤ law) → (w = 0 → cntS (tolP n f) 3240 0 0 = cntS (tolP n f) (3240 - law) law fit) → (w ≠ 0 → firS (tolP n f) 3240 0 = firS (tolP n f) (3240 - law) law) → (3240 - law) < fuel → ∀ (locs : List Loc), va_S (rF s.heap) s.heap s.heap locs → ∀ (ls : Array Slot), lv_has ls 4 [(0, .ref (ad 0)), (1, .int (nI w)), (2, .int (nI fit)), (3, .int (nI law))] → W p l e (rmD 4) s m args below meth c s.heap locs 0 0 (MQ below (rQi (spLearnt n f (nI (w))) s.heap) args s 0 0 (rF s.heap)) (F0 m 15 ls []) := by
      intro fuel
      induction fuel with
      | zero => intro fit law hi1 hi2 hu hv hfu; exact absurd hfu (Nat.not_lt_zero _)
      | succ fuel ih_2 =>
        intro fit law hi1 hi2 hu hv hfu locs hS ls hl
        refine lv_iload_n hx hb dX4_learnt_15 rfl (lv_at hl 3 rfl) ?_
        refine lv_sipush (v := nI (3240)) hx hb dX4_learnt_16 (by decide) ?_
        refine n_icmp_ge (tgt := 51) hx hb dX4_learnt_19 (by decide) (by omega) (by omega) (fun c_19 => ?_) (fun c_19 => ?_)
        · refine lv_iload_n hx hb dX4_learnt_51 rfl (lv_at hl 1 rfl) ?_
          refine n_if_ne (tgt := 59) hx hb dX4_learnt_52 (by decide) (by omega) (fun c_52 => ?_) (fun c_52 => ?_)
          · refine lv_bipush (v := (-9)) hx hb dX4_learnt_59 (by decide) ?_
            exact ro_iret hx hb hr hlocks hS dX4_learnt_61 (by simp only [spLearnt, e_w, Option.elim]; rw [if_neg c_52, hv c_52, show 3240 - law = 0 by omega, firS])
          · refine lv_iload_n hx hb dX4_learnt_55 rfl (lv_at hl 2 rfl) ?_
            refine lv_goto (tgt := 61) hx hb dX4_learnt_56 (by decide) ?_
            exact ro_iret hx hb hr hlocks hS dX4_learnt_61 (by simp only [spLearnt, e_w, Option.elim]; rw [if_pos c_52, hu c_52, show 3240 - law = 0 by omega, cntS])
        · refine lv_aload_n hx hb dX4_learnt_22 rfl (lv_at hl 0 rfl) ?_
          refine lv_iload_n hx hb dX4_learnt_23 rfl (lv_at hl 3 rfl) ?_
          refine ro_i (roV_run (As := [.int (nI law)]) (rest := []) hx hb hml hown hts Tg_M (c_X4_isAsTold l D G _ ad n f k b tr law hT (by omega)) lk_RX4_175 ⟨rfl, rfl, Nat.le_of_ble_eq_true rfl, Nat.le_of_ble_eq_true rfl⟩ hP hK [0, 1, 2] rfl 0 3 rfl rfl rfl rfl hl rfl (Nat.le_of_ble_eq_true rfl) dX4_learnt_24 ⟨Nat.le_of_ble_eq_true rfl, Nat.le_of_ble_eq_true rfl⟩) hS hA (fun locs hS => ?_)
          refine b_if_eq (tgt := 45) hx hb dX4_learnt_27 (by decide) (fun c_27 => ?_) (fun c_27 => ?_)
          · refine lv_iinc (v := nI (law + 1)) (lv' := [(3, .int (nI (law + 1))), (0, .ref (ad 0)), (1, .int (nI w)), (2, .int (nI fit))]) hx hb dX4_learnt_45 hl (k := 3) rfl (nI_inc _ _) (by decide) rfl (fun ls hl => ?_)
            refine lv_goto (tgt := 15) hx hb dX4_learnt_48 (by decide) ?_
            exact ih_2 (fit) (law + 1) (by omega) (by omega) (fun z => by rw [hu z, show 3240 - law = (3240 - (law + 1)) + 1 by omega, cntS, if_neg (by rw [c_27]; decide)]) (fun z => by rw [hv z, show 3240 - law = (3240 - (law + 1)) + 1 by omega, firS, if_neg (by rw [c_27]; decide)]) (by omega) locs hS _ (lv_sub hl [1, 2, 3, 0] rfl)
          · refine lv_iload_n hx hb dX4_learnt_30 rfl (lv_at hl 1 rfl) ?_
            refine n_if_le (tgt := 42) hx hb dX4_learnt_31 (by decide) (by omega) (fun c_31 => ?_) (fun c_31 => ?_)
            · refine lv_iinc (v := nI (fit + 1)) (lv' := [(2, .int (nI (fit + 1))), (0, .ref (ad 0)), (1, .int (nI w)), (3, .int (nI law))]) hx hb dX4_learnt_42 hl (k := 2) rfl (nI_inc _ _) (by decide) rfl (fun ls hl => ?_)
              refine lv_iinc (v := nI (law + 1)) (lv' := [(3, .int (nI (law + 1))), (2, .int (nI (fit + 1))), (0, .ref (ad 0)), (1, .int (nI w))]) hx hb dX4_learnt_45 hl (k := 3) rfl (nI_inc _ _) (by decide) rfl (fun ls hl => ?_)
              refine lv_goto (tgt := 15) hx hb dX4_learnt_48 (by decide) ?_
              exact ih_2 (fit + 1) (law + 1) (by omega) (by omega) (fun z => by rw [hu z, show 3240 - law = (3240 - (law + 1)) + 1 by omega, cntS, if_pos c_27]) (fun z => absurd c_31 (by omega)) (by omega) locs hS _ (lv_sub hl [2, 3, 1, 0] rfl)
            · refine lv_iload_n hx hb dX4_learnt_34 rfl (lv_at hl 3 rfl) ?_
              refine lv_iload_n hx hb dX4_learnt_35 rfl (lv_at hl 1 rfl) ?_
              refine lv_iconst (v := nI (1)) hx hb dX4_learnt_36 (by decide) ?_
              refine n_isub hx hb dX4_learnt_37 (by omega) ?_
              refine ro_i (roS_run (As := [.int (nI law), .int (nI (w - 1))]) (rest := []) hx hb hml hown hts Tg_M (c_X0_part l D G _ law (w - 1) (by omega) (by omega)) lk_RX4_112 ⟨rfl, rfl, Nat.le_of_ble_eq_true rfl, Nat.le_of_ble_eq_true rfl⟩ hP hK [] rfl rfl hl rfl (Nat.le_of_ble_eq_true rfl) dX4_learnt_38 ⟨Nat.le_of_ble_eq_true rfl, Nat.le_of_ble_eq_true rfl⟩) hS hA (fun locs hS => ?_)
              exact ro_iret hx hb hr hlocks hS dX4_learnt_41 (by simp only [spLearnt, e_w, Option.elim]; rw [if_neg (by omega), hv (by omega), show 3240 - law = (3239 - law) + 1 by omega, firS, if_pos c_27])
    exact loop_1 (3240 - 0 + 1) (0) (0) (by omega) (by omega) (fun _ => rfl) (fun _ => rfl) (Nat.lt_succ_self _) locs hS _ (lv_sub hl [2, 3, 1, 0] rfl)
  · have e_w := ir_no c_6
    refine lv_iconst (v := (-1)) hx hb dX4_learnt_9 (by decide) ?_
    exact ro_iret hx hb hr hlocks hS dX4_learnt_10 (by simp only [spLearnt, e_w, Option.elim])

set_option maxHeartbeats 4000000 in
set_option maxRecDepth 100000 in
theorem c_X4_may (l : Launch) (D : va_G) (G : ClassId × ClassId × ClassId) (H0 : Heap) (ad n : Nat → Nat) (f : Nat → Nat → Nat) (k : Nat → Nat) (b : Nat → Bool) (tr : Int64) (a a2 a3 a4 : Int32) (hT : TI n f) : Met l yX4_may (wM yX4_may cX4_may 9 (some .int)) (rmD 4) (rP D G [.ref (ad 0), .int (a), .int (a2), .int (a3), .int (a4)] [(ad 0, .inr (3, [.ref (ad 1), .ref (ad 10), .ref (ad 12), .ref (ad 14), .ref (ad 16), .ref (ad 21), .ref (ad 26), .int (bI (b 1)), .int (bI (b 2)), .long (tr)])), (ad 14, .inr (2, [.ref (ad 15), .int (nI (4 * n 6))])), (ad 15, .inl (G.1, 32, .inl (nF (f 6))))] H0) (rQi (spMay n f a a2 a3 a4) H0) 0 0 (rF H0) := by
  refine ro_start (Qc := fun H0 => (rQi (spMay n f a a2 a3 a4) H0)) (by decide) (Nat.le_of_ble_eq_true rfl) ?_
  intro p e s m args below meth c hx hb hr hts hown hlocks hml hP hK hA hH0 ls hl locs hS
  have hl : lv_has ls 9 [(0, .ref (ad 0)), (1, .int (a)), (2, .int (a2)), (3, .int (a3)), (4, .int (a4))] := hl
  refine lv_iload_n hx hb dX4_may_0 rfl (lv_at hl 1 rfl) ?_
  refine lv_iload_n hx hb dX4_may_1 rfl (lv_at hl 2 rfl) ?_
  refine lv_iload_n hx hb dX4_may_2 rfl (lv_at hl 3 rfl) ?_
  refine ro_i (roS_run (As := [.int (a), .int (a2), .int (a3)]) (rest := []) hx hb hml hown hts Tg_M (c_X4_isTasting l D G _ (a) (a2) (a3)) lk_RX4_169 ⟨rfl, rfl, Nat.le_of_ble_eq_true rfl, Nat.le_of_ble_eq_true rfl⟩ hP hK [] rfl rfl hl rfl (Nat.le_of_ble_eq_true rfl) dX4_may_3 ⟨Nat.le_of_ble_eq_true rfl, Nat.le_of_ble_eq_true rfl⟩) hS hA (fun locs hS => ?_)
  refine b_if_eq (tgt := 19) hx hb dX4_may_6 (by decide) (fun c_6 => ?_) (fun c_6 => ?_)
  · have e_T := irT_no c_6
    refine lv_iconst (v := (-1)) hx hb dX4_may_19 (by decide) ?_
    exact ro_iret hx hb hr hlocks hS dX4_may_20 (by simp only [spMay, e_T, Option.elim])
  · obtain ⟨x, y, z, hx9, hy9, hz9, rfl, rfl, rfl, e_T⟩ := irT_ok c_6
    refine lv_iload hx hb dX4_may_9 (lv_at hl 4 rfl) ?_
    refine lv_iconst (v := nI (0)) hx hb dX4_may_11 (by decide) ?_
    refine lv_iconst (v := nI (1)) hx hb dX4_may_12 (by decide) ?_
    refine ro_i (roS_run (As := [.int (a4), .int (nI 0), .int (nI 1)]) (rest := []) hx hb hml hown hts Tg_M (c_X4_isWithin l D G _ (a4) (nI (0)) (nI (1))) lk_RX4_55 ⟨rfl, rfl, Nat.le_of_ble_eq_true rfl, Nat.le_of_ble_eq_true rfl⟩ hP hK [] rfl rfl hl rfl (Nat.le_of_ble_eq_true rfl) dX4_may_13 ⟨Nat.le_of_ble_eq_true rfl, Nat.le_of_ble_eq_true rfl⟩) hS hA (fun locs hS => ?_)
    refine b_if_ne (tgt := 21) hx hb dX4_may_16 (by decide) (fun c_16 => ?_) (fun c_16 => ?_)
    · obtain ⟨w, g_w, h_w, rfl⟩ := inR_N (by decide) (by decide) c_16
      have e_w := ir_yes g_w h_w (by decide)
      refine lv_bipush (v := (-9)) hx hb dX4_may_21 (by decide) ?_
      refine lv_istore (lv' := [(5, .int (-9)), (0, .ref (ad 0)), (1, .int (nI x)), (2, .int (nI y)), (3, .int (nI z)), (4, .int (nI w))]) hx hb dX4_may_23 hl (by decide) rfl (fun ls hl => ?_)
      refine lv_bipush (v := (-9)) hx hb dX4_may_25 (by decide) ?_
      refine lv_istore (lv' := [(6, .int (-9)), (5, .int (-9)), (0, .ref (ad 0)), (1, .int (nI x)), (2, .int (nI y)), (3, .int (nI z)), (4, .int (nI w))]) hx hb dX4_may_27 hl (by decide) rfl (fun ls hl => ?_)
      refine lv_iconst (v := nI (0)) hx hb dX4_may_29 (by decide) ?_
      refine lv_istore (lv' := [(7, .int (nI 0)), (6, .int (-9)), (5, .int (-9)), (0, .ref (ad 0)), (1, .int (nI x)), (2, .int (nI y)), (3, .int (nI z)), (4, .int (nI w))]) hx hb dX4_may_30 hl (by decide) rfl (fun ls hl => ?_)
      have loop_1 : ∀ (fuel : Nat) (law : Nat) (o : Option (Nat × Nat)), (law ≤ 3240) → (optB o 558 558) → (mayS (tolP n f) (fun law => drk law x y z) 3240 0 none = mayS (tolP n f) (fun law => drk law x y z) (3240 - law) law o) → (3240 - law) < fuel → ∀ (locs : List Loc), va_S (rF s.heap) s.heap s.heap locs → ∀ (ls : Array Slot), lv_has ls 9 [(0, .ref (ad 0)), (1, .int (nI x)), (2, .int (nI y)), (3, .int (nI z)), (4, .int (nI w)), (5, .int (optI o 0)), (6, .int (optI o 1)), (7, .int (nI law))] → W p l e (rmD 4) s m args below meth c s.heap locs 0 0 (MQ below (rQi (spMay n f (nI (x)) (nI (y)) (nI (z)) (nI (w))) s.heap) args s 0 0 (rF s.heap)) (F0 m 32 ls []) := by
        intro fuel
        induction fuel with
        | zero => intro law o hi1 ho hu hfu; exact absurd hfu (Nat.not_lt_zero _)
        | succ fuel ih_2 =>
          intro law o hi1 ho hu hfu locs hS ls hl
          rcases o with _ | ⟨bt, bf⟩
          · have hl : lv_has ls 9 [(0, .ref (ad 0)), (1, .int (nI x)), (2, .int (nI y)), (3, .int (nI z)), (4, .int (nI w)), (5, .int (-9)), (6, .int (-9)), (7, .int (nI law))] := hl
            refine lv_iload hx hb dX4_may_32 (lv_at hl 7 rfl) ?_
            refine lv_sipush (v := nI (3240)) hx hb dX4_may_34 (by decide) ?_
            refine n_icmp_ge (tgt := 95) hx hb dX4_may_37 (by decide) (by omega) (by omega) (fun c_37 => ?_) (fun c_37 => ?_)
            · refine lv_iload hx hb dX4_may_95 (lv_at hl 4 rfl) ?_
              refine n_if_ne (tgt := 105) hx hb dX4_may_97 (by decide) (by omega) (fun c_97 => ?_) (fun c_97 => ?_)
              · refine lv_iload hx hb dX4_may_105 (lv_at hl 6 rfl) ?_
                exact ro_iret hx hb hr hlocks hS dX4_may_107 (by simp only [spMay, e_T, e_w, Option.elim]; rw [hu, show 3240 - law = 0 by omega, mayS, show w = 1 by omega]; rfl)
              · refine lv_iload hx hb dX4_may_100 (lv_at hl 5 rfl) ?_
                refine lv_goto (tgt := 107) hx hb dX4_may_102 (by decide) ?_
                exact ro_iret hx hb hr hlocks hS dX4_may_107 (by simp only [spMay, e_T, e_w, Option.elim]; rw [hu, show 3240 - law = 0 by omega, mayS, c_97]; rfl)
            · refine lv_aload_n hx hb dX4_may_40 rfl (lv_at hl 0 rfl) ?_
              refine lv_iload hx hb dX4_may_41 (lv_at hl 7 rfl) ?_
              refine ro_i (roV_run (As := [.int (nI law)]) (rest := []) hx hb hml hown hts Tg_M (c_X4_isAsTold l D G _ ad n f k b tr law hT (by omega)) lk_RX4_175 ⟨rfl, rfl, Nat.le_of_ble_eq_true rfl, Nat.le_of_ble_eq_true rfl⟩ hP hK [0, 1, 2] rfl 0 3 rfl rfl rfl rfl hl rfl (Nat.le_of_ble_eq_true rfl) dX4_may_43 ⟨Nat.le_of_ble_eq_true rfl, Nat.le_of_ble_eq_true rfl⟩) hS hA (fun locs hS => ?_)
              refine b_if_eq (tgt := 89) hx hb dX4_may_46 (by decide) (fun c_46 => ?_) (fun c_46 => ?_)
              · refine lv_iinc (v := nI (law + 1)) (lv' := [(7, .int (nI (law + 1))), (0, .ref (ad 0)), (1, .int (nI x)), (2, .int (nI y)), (3, .int (nI z)), (4, .int (nI w)), (5, .int (-9)), (6, .int (-9))]) hx hb dX4_may_89 hl (k := 7) rfl (nI_inc _ _) (by decide) rfl (fun ls hl => ?_)
                refine lv_goto (tgt := 32) hx hb dX4_may_92 (by decide) ?_
                exact ih_2 (law + 1) (none) (by omega) (ho) (by rw [hu, show 3240 - law = (3240 - (law + 1)) + 1 by omega, mayS, if_neg (by rw [c_46]; decide)]) (by omega) locs hS _ (lv_sub hl [1, 2, 3, 4, 5, 6, 7, 0] rfl)
              · have eD := drk_lt (law := law) (by omega) hx9 (show y ≤ 4096 by omega) hz9
                refine lv_iload hx hb dX4_may_49 (lv_at hl 7 rfl) ?_
                refine lv_iload_n hx hb dX4_may_51 rfl (lv_at hl 1 rfl) ?_
                refine lv_iload_n hx hb dX4_may_52 rfl (lv_at hl 2 rfl) ?_
                refine lv_iload_n hx hb dX4_may_53 rfl (lv_at hl 3 rfl) ?_
                refine ro_i (roS_run (As := [.int (nI law), .int (nI x), .int (nI y), .int (nI z)]) (rest := []) hx hb hml hown hts Tg_M (c_X0_drinks l D G _ law x y z (by omega) (by omega) (by omega) (by omega)) lk_RX4_122 ⟨rfl, rfl, Nat.le_of_ble_eq_true rfl, Nat.le_of_ble_eq_true rfl⟩ hP hK [] rfl rfl hl rfl (Nat.le_of_ble_eq_true rfl) dX4_may_54 ⟨Nat.le_of_ble_eq_true rfl, Nat.le_of_ble_eq_true rfl⟩) hS hA (fun locs hS => ?_)
                refine lv_istore (lv' := [(8, .int (nI (drk law x y z))), (0, .ref (ad 0)), (1, .int (nI x)), (2, .int (nI y)), (3, .int (nI z)), (4, .int (nI w)), (5, .int (-9)), (6, .int (-9)), (7, .int (nI law))]) hx hb dX4_may_57 hl (by decide) rfl (fun ls hl => ?_)
                refine lv_iload hx hb dX4_may_59 (lv_at hl 6 rfl) ?_
                refine lv_bipush (v := (-9)) hx hb dX4_may_61 (by decide) ?_
                refine lv_icmp_ne (tgt := 71) hx hb dX4_may_63 (by decide) (fun c_63 => ?_) (fun c_63 => ?_)
                · exact absurd rfl c_63
                · refine lv_iload hx hb dX4_may_66 (lv_at hl 0 rfl) ?_
                  refine lv_goto (tgt := 78) hx hb dX4_may_68 (by decide) ?_
                  refine lv_istore (lv' := [(5, .int (nI (drk law x y z))), (8, .int (nI (drk law x y z))), (0, .ref (ad 0)), (1, .int (nI x)), (2, .int (nI y)), (3, .int (nI z)), (4, .int (nI w)), (6, .int (-9)), (7, .int (nI law))]) hx hb dX4_may_78 hl (by decide) rfl (fun ls hl => ?_)
                  refine lv_iload hx hb dX4_may_80 (lv_at hl 7 rfl) ?_
                  refine lv_iload hx hb dX4_may_82 (lv_at hl 1 rfl) ?_
                  refine va_mmax hx hb (hml.trans hl.1.symm) hown (hts _ (List.mem_cons_of_mem _ wt_438)) (hts _ (List.mem_cons_of_mem _ wt_84)) (hts _ (List.mem_cons_of_mem _ wt_55)) (hts _ (List.mem_cons_of_mem _ wt_85)) (Nat.le_of_ble_eq_true rfl) (Nat.le_of_ble_eq_true rfl) (Nat.le_of_ble_eq_true rfl) (Nat.le_of_ble_eq_true rfl) dX4_may_84 ?_
                  refine n_tope (show (if (-9) < nI (drk law x y z) then nI (drk law x y z) else (-9)) = nI (drk law x y z) from max9 (by omega)) ?_
                  refine lv_istore (lv' := [(6, .int (nI (drk law x y z))), (5, .int (nI (drk law x y z))), (8, .int (nI (drk law x y z))), (0, .ref (ad 0)), (1, .int (nI x)), (2, .int (nI y)), (3, .int (nI z)), (4, .int (nI w)), (7, .int (nI law))]) hx hb dX4_may_87 hl (by decide) rfl (fun ls hl => ?_)
                  refine lv_iinc (v := nI (law + 1)) (lv' := [(7, .int (nI (law + 1))), (6, .int (nI (drk law x y z))), (5, .int (nI (drk law x y z))), (8, .int (nI (drk law x y z))), (0, .ref (ad 0)), (1, .int (nI x)), (2, .int (nI y)), (3, .int (nI z)), (4, .int (nI w))]) hx hb dX4_may_89 hl (k := 8) rfl (nI_inc _ _) (by decide) rfl (fun ls hl => ?_)
                  refine lv_goto (tgt := 32) hx hb dX4_may_92 (by decide) ?_
                  exact ih_2 (law + 1) (some (drk law x y z, drk law x y z)) (by omega) (⟨by omega, by omega⟩) (by rw [hu, show 3240 - law = (3240 - (law + 1)) + 1 by omega, mayS, if_pos c_46]) (by omega) locs hS _ (lv_sub hl [4, 5, 6, 7, 8, 2, 1, 0] rfl)
          · have hl : lv_has ls 9 [(0, .ref (ad 0)), (1, .int (nI x)), (2, .int (nI y)), (3, .int (nI z)), (4, .int (nI w)), (5, .int (nI bt)), (6, .int (nI bf)), (7, .int (nI law))] := hl
            have ho1 := ho.1
            have ho2 := ho.2
            refine lv_iload hx hb dX4_may_32 (lv_at hl 7 rfl) ?_
            refine lv_sipush (v := nI (3240)) hx hb dX4_may_34 (by decide) ?_
            refine n_icmp_ge (tgt := 95) hx hb dX4_may_37 (by decide) (by omega) (by omega) (fun c_37 => ?_) (fun c_37 => ?_)
            · refine lv_iload hx hb dX4_may_95 (lv_at hl 4 rfl) ?_
              refine n_if_ne (tgt := 105) hx hb dX4_may_97 (by decide) (by omega) (fun c_97 => ?_) (fun c_97 => ?_)
              · refine lv_iload hx hb dX4_may_105 (lv_at hl 6 rfl) ?_
                exact ro_iret hx hb hr hlocks hS dX4_may_107 (by simp only [spMay, e_T, e_w, Option.elim]; rw [hu, show 3240 - law = 0 by omega, mayS, show w = 1 by omega]; rfl)
              · refine lv_iload hx hb dX4_may_100 (lv_at hl 5 rfl) ?_
                refine lv_goto (tgt := 107) hx hb dX4_may_102 (by decide) ?_
                exact ro_iret hx hb hr hlocks hS dX4_may_107 (by simp only [spMay, e_T, e_w, Option.elim]; rw [hu, show 3240 - law = 0 by omega, mayS, c_97]; rfl)
            · refine lv_aload_n hx hb dX4_may_40 rfl (lv_at hl 0 rfl) ?_
              refine lv_iload hx hb dX4_may_41 (lv_at hl 7 rfl) ?_
              refine ro_i (roV_run (As := [.int (nI law)]) (rest := []) hx hb hml hown hts Tg_M (c_X4_isAsTold l D G _ ad n f k b tr law hT (by omega)) lk_RX4_175 ⟨rfl, rfl, Nat.le_of_ble_eq_true rfl, Nat.le_of_ble_eq_true rfl⟩ hP hK [0, 1, 2] rfl 0 3 rfl rfl rfl rfl hl rfl (Nat.le_of_ble_eq_true rfl) dX4_may_43 ⟨Nat.le_of_ble_eq_true rfl, Nat.le_of_ble_eq_true rfl⟩) hS hA (fun locs hS => ?_)
              refine b_if_eq (tgt := 89) hx hb dX4_may_46 (by decide) (fun c_46 => ?_) (fun c_46 => ?_)
              · refine lv_iinc (v := nI (law + 1)) (lv' := [(7, .int (nI (law + 1))), (0, .ref (ad 0)), (1, .int (nI x)), (2, .int (nI y)), (3, .int (nI z)), (4, .int (nI w)), (5, .int (nI bt)), (6, .int (nI bf))]) hx hb dX4_may_89 hl (k := 7) rfl (nI_inc _ _) (by decide) rfl (fun ls hl => ?_)
                refine lv_goto (tgt := 32) hx hb dX4_may_92 (by decide) ?_
                exact ih_2 (law + 1) (some (bt, bf)) (by omega) (ho) (by rw [hu, show 3240 - law = (3240 - (law + 1)) + 1 by omega, mayS, if_neg (by rw [c_46]; decide)]) (by omega) locs hS _ (lv_sub hl [1, 2, 3, 4, 5, 6, 7, 0] rfl)
              · have eD := drk_lt (law := law) (by omega) hx9 (show y ≤ 4096 by omega) hz9
                refine lv_iload hx hb dX4_may_49 (lv_at hl 7 rfl) ?_
                refine lv_iload_n hx hb dX4_may_51 rfl (lv_at hl 1 rfl) ?_
                refine lv_iload_n hx hb dX4_may_52 rfl (lv_at hl 2 rfl) ?_
                refine lv_iload_n hx hb dX4_may_53 rfl (lv_at hl 3 rfl) ?_
                refine ro_i (roS_run (As := [.int (nI law), .int (nI x), .int (nI y), .int (nI z)]) (rest := []) hx hb hml hown hts Tg_M (c_X0_drinks l D G _ law x y z (by omega) (by omega) (by omega) (by omega)) lk_RX4_122 ⟨rfl, rfl, Nat.le_of_ble_eq_true rfl, Nat.le_of_ble_eq_true rfl⟩ hP hK [] rfl rfl hl rfl (Nat.le_of_ble_eq_true rfl) dX4_may_54 ⟨Nat.le_of_ble_eq_true rfl, Nat.le_of_ble_eq_true rfl⟩) hS hA (fun locs hS => ?_)
                refine lv_istore (lv' := [(8, .int (nI (drk law x y z))), (0, .ref (ad 0)), (1, .int (nI x)), (2, .int (nI y)), (3, .int (nI z)), (4, .int (nI w)), (5, .int (nI bt)), (6, .int (nI bf)), (7, .int (nI law))]) hx hb dX4_may_57 hl (by decide) rfl (fun ls hl => ?_)
                refine lv_iload hx hb dX4_may_59 (lv_at hl 6 rfl) ?_
                refine lv_bipush (v := (-9)) hx hb dX4_may_61 (by decide) ?_
                refine lv_icmp_ne (tgt := 71) hx hb dX4_may_63 (by decide) (fun c_63 => ?_) (fun c_63 => ?_)
                · refine lv_iload hx hb dX4_may_71 (lv_at hl 6 rfl) ?_
                  refine lv_iload hx hb dX4_may_73 (lv_at hl 0 rfl) ?_
                  refine va_mmin hx hb (hml.trans hl.1.symm) hown (hts _ (List.mem_cons_of_mem _ wt_419)) (hts _ (List.mem_cons_of_mem _ wt_420)) (hts _ (List.mem_cons_of_mem _ wt_55)) (hts _ (List.mem_cons_of_mem _ wt_421)) (Nat.le_of_ble_eq_true rfl) (Nat.le_of_ble_eq_true rfl) (Nat.le_of_ble_eq_true rfl) (Nat.le_of_ble_eq_true rfl) dX4_may_75 ?_
                  refine n_tope (min_nI (by omega) (by omega)) ?_
                  refine lv_istore (lv' := [(5, .int (nI (Nat.min bt (drk law x y z)))), (8, .int (nI (drk law x y z))), (0, .ref (ad 0)), (1, .int (nI x)), (2, .int (nI y)), (3, .int (nI z)), (4, .int (nI w)), (6, .int (nI bf)), (7, .int (nI law))]) hx hb dX4_may_78 hl (by decide) rfl (fun ls hl => ?_)
                  refine lv_iload hx hb dX4_may_80 (lv_at hl 7 rfl) ?_
                  refine lv_iload hx hb dX4_may_82 (lv_at hl 1 rfl) ?_
                  refine va_mmax hx hb (hml.trans hl.1.symm) hown (hts _ (List.mem_cons_of_mem _ wt_438)) (hts _ (List.mem_cons_of_mem _ wt_84)) (hts _ (List.mem_cons_of_mem _ wt_55)) (hts _ (List.mem_cons_of_mem _ wt_85)) (Nat.le_of_ble_eq_true rfl) (Nat.le_of_ble_eq_true rfl) (Nat.le_of_ble_eq_true rfl) (Nat.le_of_ble_eq_true rfl) dX4_may_84 ?_
                  refine n_tope (max_nI (by omega) (by omega)) ?_
                  refine lv_istore (lv' := [(6, .int (nI (Nat.max bf (drk law x y z)))), (5, .int (nI (Nat.min bt (drk law x y z)))), (8, .int (nI (drk law x y z))), (0, .ref (ad 0)), (1, .int (nI x)), (2, .int (nI y)), (3, .int (nI z)), (4, .int (nI w)), (7, .int (nI law))]) hx hb dX4_may_87 hl (by decide) rfl (fun ls hl => ?_)
                  refine lv_iinc (v := nI (law + 1)) (lv' := [(7, .int (nI (law + 1))), (6, .int (nI (Nat.max bf (drk law x y z)))), (5, .int (nI (Nat.min bt (drk law x y z)))), (8, .int (nI (drk law x y z))), (0, .ref (ad 0)), (1, .int (nI x)), (2, .int (nI y)), (3, .int (nI z)), (4, .int (nI w))]) hx hb dX4_may_89 hl (k := 8) rfl (nI_inc _ _) (by decide) rfl (fun ls hl => ?_)
                  refine lv_goto (tgt := 32) hx hb dX4_may_92 (by decide) ?_
                  exact ih_2 (law + 1) (some (Nat.min bt (drk law x y z), Nat.max bf (drk law x y z))) (by omega) (⟨Nat.le_trans (Nat.min_le_left _ _) ho1, Nat.max_le.mpr ⟨ho2, by omega⟩⟩) (by rw [hu, show 3240 - law = (3240 - (law + 1)) + 1 by omega, mayS, if_pos c_46]) (by omega) locs hS _ (lv_sub hl [4, 5, 6, 7, 8, 2, 1, 0] rfl)
                · exact absurd c_63 (nI_ne9 (by omega))
      exact loop_1 (3240 - 0 + 1) (0) (none) (by omega) (trivial) (rfl) (Nat.lt_succ_self _) locs hS _ (lv_sub hl [3, 4, 5, 6, 7, 2, 1, 0] rfl)
    · have e_w := ir_no c_16
      refine lv_iconst (v := (-1)) hx hb dX4_may_19 (by decide) ?_
      exact ro_iret hx hb hr hlocks hS dX4_may_20 (by simp only [spMay, e_T, e_w, Option.elim])

set_option maxHeartbeats 4000000 in
set_option maxRecDepth 100000 in
theorem c_X4_bribed (l : Launch) (D : va_G) (G : ClassId × ClassId × ClassId) (H0 : Heap) (ad n : Nat → Nat) (f : Nat → Nat → Nat) (k : Nat → Nat) (b : Nat → Bool) (tr : Int64) (q : Nat) (hI : XI n f k q) : Met l yX4_bribed (wM yX4_bribed cX4_bribed 5 (some .int)) (rmD 4) (rP D G [.ref (ad 0)] [(ad 0, .inr (3, [.ref (ad 1), .ref (ad 10), .ref (ad 12), .ref (ad 14), .ref (ad 16), .ref (ad 21), .ref (ad 26), .int (bI (b 1)), .int (bI (b 2)), .long (tr)])), (ad 10, .inr (2, [.ref (ad 11), .int (nI (n 4))])), (ad 11, .inl (G.1, 5, .inl (nF (f 4)))), (ad 12, .inr (2, [.ref (ad 13), .int (nI (n 5))])), (ad 13, .inl (G.1, 6, .inl (nF (f 5)))), (ad 16, .inr (0, [.ref (ad 17), .ref (ad 19), .int (nI (k 5))])), (ad 19, .inr (2, [.ref (ad 20), .int (nI (6 * n 8))])), (ad 20, .inl (G.1, 72, .inl (nF (f 8))))] H0) (rQi (spBribed n f) H0) 0 0 (rF H0) := by
  refine ro_start (Qc := fun H0 => (rQi (spBribed n f) H0)) (by decide) (Nat.le_of_ble_eq_true rfl) ?_
  intro p e s m args below meth c hx hb hr hts hown hlocks hml hP hK hA hH0 ls hl locs hS
  have hl : lv_has ls 5 [(0, .ref (ad 0))] := hl
  have hI0 := hI
  obtain ⟨i4, i5, i6, iq, iw, il, i7, i8, ih9, ik, iF⟩ := hI
  refine lv_iconst (v := nI (0)) hx hb dX4_bribed_0 (by decide) ?_
  refine lv_istore_n (lv' := [(1, .int (nI 0)), (0, .ref (ad 0))]) hx hb dX4_bribed_1 rfl hl (by decide) rfl (fun ls hl => ?_)
  refine lv_iconst (v := nI (0)) hx hb dX4_bribed_2 (by decide) ?_
  refine lv_istore_n (lv' := [(2, .int (nI 0)), (1, .int (nI 0)), (0, .ref (ad 0))]) hx hb dX4_bribed_3 rfl hl (by decide) rfl (fun ls hl => ?_)
  have loop_1 : ∀ (fuel : Nat) (i : Nat) (bb : Int32), (i ≤ n 8) → (brS f (n 8) 0 (nI 0) = brS f (n 8 - i) i bb) → (n 8 - i) < fuel → ∀ (locs : List Loc), va_S (rF s.heap) s.heap s.heap locs → ∀ (ls : Array Slot), lv_has ls 5 [(0, .ref (ad 0)), (1, .int (bb)), (2, .int (nI i))] → W p l e (rmD 4) s m args below meth c s.heap locs 0 0 (MQ below (rQi (spBribed n f) s.heap) args s 0 0 (rF s.heap)) (F0 m 4 ls []) := by
    intro fuel
    induction fuel with
    | zero => intro i bb hi1 hu hfu; exact absurd hfu (Nat.not_lt_zero _)
    | succ fuel ih_2 =>
      intro i bb hi1 hu hfu locs hS ls hl
      refine lv_iload_n hx hb dX4_bribed_4 rfl (lv_at hl 2 rfl) ?_
      refine lv_aload_n hx hb dX4_bribed_5 rfl (lv_at hl 0 rfl) ?_
      refine ro_i (roV_run (As := []) (rest := [.int (nI i)]) hx hb hml hown hts Tg_M (c_X4_facts l D G _ ad n f k b tr  (by omega)) lk_RX4_126 ⟨rfl, rfl, Nat.le_of_ble_eq_true rfl, Nat.le_of_ble_eq_true rfl⟩ hP hK [0, 5, 6, 7] rfl 0 3 rfl rfl rfl rfl hl rfl (Nat.le_of_ble_eq_true rfl) dX4_bribed_6 ⟨Nat.le_of_ble_eq_true rfl, Nat.le_of_ble_eq_true rfl⟩) hS hA (fun locs hS => ?_)
      refine n_icmp_ge (tgt := 80) hx hb dX4_bribed_9 (by decide) (by omega) (by omega) (fun c_9 => ?_) (fun c_9 => ?_)
      · refine lv_iload_n hx hb dX4_bribed_80 rfl (lv_at hl 1 rfl) ?_
        exact ro_iret hx hb hr hlocks hS dX4_bribed_81 (by rw [spBribed, show (0 : Int32) = nI 0 from rfl, hu, show n 8 - i = 0 by omega, brS])
      · have e0 := iF i c_9
        have e1 := il _ e0.1
        have e3 := iw _ e0.2.2.2.1
        have e2 := drk_lt e1 e3 (show f 8 (6 * i + 1) ≤ 4096 by omega) e0.2.2.1
        refine lv_aload_n hx hb dX4_bribed_12 rfl (lv_at hl 0 rfl) ?_
        refine lv_iload_n hx hb dX4_bribed_13 rfl (lv_at hl 2 rfl) ?_
        refine lv_iconst (v := nI (5)) hx hb dX4_bribed_14 (by decide) ?_
        refine ro_i (roV_run (As := [.int (nI i), .int (nI 5)]) (rest := []) hx hb hml hown hts Tg_M (c_X4_fact l D G _ ad n f k b tr i 5 (by omega) (by omega) (by omega)) lk_RX4_147 ⟨rfl, rfl, Nat.le_of_ble_eq_true rfl, Nat.le_of_ble_eq_true rfl⟩ hP hK [0, 5, 6, 7] rfl 0 3 rfl rfl rfl rfl hl rfl (Nat.le_of_ble_eq_true rfl) dX4_bribed_15 ⟨Nat.le_of_ble_eq_true rfl, Nat.le_of_ble_eq_true rfl⟩) hS hA (fun locs hS => ?_)
        refine lv_iconst (v := nI (1)) hx hb dX4_bribed_18 (by decide) ?_
        refine n_icmp_ne (tgt := 26) hx hb dX4_bribed_19 (by decide) (by omega) (by omega) (fun c_19 => ?_) (fun c_19 => ?_)
        · refine lv_iconst (v := nI (0)) hx hb dX4_bribed_26 (by decide) ?_
          refine lv_istore_n (lv' := [(3, .int (nI 0)), (0, .ref (ad 0)), (1, .int (bb)), (2, .int (nI i))]) hx hb dX4_bribed_27 rfl hl (by decide) rfl (fun ls hl => ?_)
          refine lv_aload_n hx hb dX4_bribed_28 rfl (lv_at hl 1 rfl) ?_
          refine va_get (D := D) (ci := 3) (v := .ref (ad 10)) (C := RX4) (T := TX4) (N := 10) hx hb hts (iX4) hown hK hP 0 rfl rfl 1 (by decide) (hts _ (List.mem_cons_of_mem _ wt_157)) (fun _ h9 => h9) rfl dX4_bribed_29 ?_
          refine lv_aload_n hx hb dX4_bribed_32 rfl (lv_at hl 1 rfl) ?_
          refine lv_iload_n hx hb dX4_bribed_33 rfl (lv_at hl 3 rfl) ?_
          refine lv_iconst (v := nI (3)) hx hb dX4_bribed_34 (by decide) ?_
          refine ro_i (roV_run (As := [.int (nI i), .int (nI 3)]) (rest := [.ref (ad 10)]) hx hb hml hown hts Tg_M (c_X4_fact l D G _ ad n f k b tr i 3 (by omega) (by omega) (by omega)) lk_RX4_147 ⟨rfl, rfl, Nat.le_of_ble_eq_true rfl, Nat.le_of_ble_eq_true rfl⟩ hP hK [0, 5, 6, 7] rfl 0 3 rfl rfl rfl rfl hl rfl (Nat.le_of_ble_eq_true rfl) dX4_bribed_35 ⟨Nat.le_of_ble_eq_true rfl, Nat.le_of_ble_eq_true rfl⟩) hS hA (fun locs hS => ?_)
          refine ro_i (roV_run (As := [.int (nI (f 8 (6 * i + 3)))]) (rest := []) hx hb hml hown hts Tg_M (c_X3_at l D G _ (ad 10) (ad 11) 5 (n 4) (f 4) (f 8 (6 * i + 3)) (by omega) (by omega) (by omega)) lk_RX4_102 ⟨rfl, rfl, Nat.le_of_ble_eq_true rfl, Nat.le_of_ble_eq_true rfl⟩ hP hK [1, 2] rfl 1 2 rfl rfl rfl rfl hl rfl (Nat.le_of_ble_eq_true rfl) dX4_bribed_38 ⟨Nat.le_of_ble_eq_true rfl, Nat.le_of_ble_eq_true rfl⟩) hS hA (fun locs hS => ?_)
          refine lv_istore (lv' := [(4, .int (nI ((f 4) (f 8 (6 * i + 3))))), (3, .int (nI 0)), (0, .ref (ad 0)), (1, .int (bb)), (2, .int (nI i))]) hx hb dX4_bribed_41 hl (by decide) rfl (fun ls hl => ?_)
          refine lv_iload_n hx hb dX4_bribed_43 rfl (lv_at hl 1 rfl) ?_
          refine n_if_eq (tgt := 74) hx hb dX4_bribed_44 (by decide) (by omega) (fun c_44 => ?_) (fun c_44 => ?_)
          · refine lv_iinc (v := nI (i + 1)) (lv' := [(2, .int (nI (i + 1))), (4, .int (nI ((f 4) (f 8 (6 * i + 3))))), (3, .int (nI 0)), (0, .ref (ad 0)), (1, .int (bb))]) hx hb dX4_bribed_74 hl (k := 4) rfl (nI_inc _ _) (by decide) rfl (fun ls hl => ?_)
            refine lv_goto (tgt := 4) hx hb dX4_bribed_77 (by decide) ?_
            exact ih_2 (i + 1) (bb) (by omega) (by rw [hu, show n 8 - i = (n 8 - (i + 1)) + 1 by omega, brS, if_neg (fun z => c_19 z.1)]) (by omega) locs hS _ (lv_sub hl [3, 4, 0] rfl)
          · exact absurd c_44 (by decide)
        · refine lv_iconst (v := nI (1)) hx hb dX4_bribed_22 (by decide) ?_
          refine lv_goto (tgt := 27) hx hb dX4_bribed_23 (by decide) ?_
          refine lv_istore_n (lv' := [(3, .int (nI 1)), (0, .ref (ad 0)), (1, .int (bb)), (2, .int (nI i))]) hx hb dX4_bribed_27 rfl hl (by decide) rfl (fun ls hl => ?_)
          refine lv_aload_n hx hb dX4_bribed_28 rfl (lv_at hl 1 rfl) ?_
          refine va_get (D := D) (ci := 3) (v := .ref (ad 10)) (C := RX4) (T := TX4) (N := 10) hx hb hts (iX4) hown hK hP 0 rfl rfl 1 (by decide) (hts _ (List.mem_cons_of_mem _ wt_157)) (fun _ h9 => h9) rfl dX4_bribed_29 ?_
          refine lv_aload_n hx hb dX4_bribed_32 rfl (lv_at hl 1 rfl) ?_
          refine lv_iload_n hx hb dX4_bribed_33 rfl (lv_at hl 3 rfl) ?_
          refine lv_iconst (v := nI (3)) hx hb dX4_bribed_34 (by decide) ?_
          refine ro_i (roV_run (As := [.int (nI i), .int (nI 3)]) (rest := [.ref (ad 10)]) hx hb hml hown hts Tg_M (c_X4_fact l D G _ ad n f k b tr i 3 (by omega) (by omega) (by omega)) lk_RX4_147 ⟨rfl, rfl, Nat.le_of_ble_eq_true rfl, Nat.le_of_ble_eq_true rfl⟩ hP hK [0, 5, 6, 7] rfl 0 3 rfl rfl rfl rfl hl rfl (Nat.le_of_ble_eq_true rfl) dX4_bribed_35 ⟨Nat.le_of_ble_eq_true rfl, Nat.le_of_ble_eq_true rfl⟩) hS hA (fun locs hS => ?_)
          refine ro_i (roV_run (As := [.int (nI (f 8 (6 * i + 3)))]) (rest := []) hx hb hml hown hts Tg_M (c_X3_at l D G _ (ad 10) (ad 11) 5 (n 4) (f 4) (f 8 (6 * i + 3)) (by omega) (by omega) (by omega)) lk_RX4_102 ⟨rfl, rfl, Nat.le_of_ble_eq_true rfl, Nat.le_of_ble_eq_true rfl⟩ hP hK [1, 2] rfl 1 2 rfl rfl rfl rfl hl rfl (Nat.le_of_ble_eq_true rfl) dX4_bribed_38 ⟨Nat.le_of_ble_eq_true rfl, Nat.le_of_ble_eq_true rfl⟩) hS hA (fun locs hS => ?_)
          refine lv_istore (lv' := [(4, .int (nI ((f 4) (f 8 (6 * i + 3))))), (3, .int (nI 1)), (0, .ref (ad 0)), (1, .int (bb)), (2, .int (nI i))]) hx hb dX4_bribed_41 hl (by decide) rfl (fun ls hl => ?_)
          refine lv_iload_n hx hb dX4_bribed_43 rfl (lv_at hl 1 rfl) ?_
          refine n_if_eq (tgt := 74) hx hb dX4_bribed_44 (by decide) (by omega) (fun c_44 => ?_) (fun c_44 => ?_)
          · exact absurd c_44 (by decide)
          · refine lv_aload_n hx hb dX4_bribed_47 rfl (lv_at hl 2 rfl) ?_
            refine lv_iload_n hx hb dX4_bribed_48 rfl (lv_at hl 4 rfl) ?_
            refine lv_iload hx hb dX4_bribed_49 (lv_at hl 0 rfl) ?_
            refine ro_i (roV_run (As := [.int (nI i), .int (nI ((f 4) (f 8 (6 * i + 3))))]) (rest := []) hx hb hml hown hts Tg_M (c_X4_drinksIn l D G _ ad n f k b tr q i ((f 4) (f 8 (6 * i + 3))) hI0 (by omega) (by omega)) lk_RX4_178 ⟨rfl, rfl, Nat.le_of_ble_eq_true rfl, Nat.le_of_ble_eq_true rfl⟩ hP hK [0, 3, 4, 5, 6, 7] rfl 0 3 rfl rfl rfl rfl hl rfl (Nat.le_of_ble_eq_true rfl) dX4_bribed_51 ⟨Nat.le_of_ble_eq_true rfl, Nat.le_of_ble_eq_true rfl⟩) hS hA (fun locs hS => ?_)
            refine lv_aload_n hx hb dX4_bribed_54 rfl (lv_at hl 2 rfl) ?_
            refine lv_iload_n hx hb dX4_bribed_55 rfl (lv_at hl 4 rfl) ?_
            refine lv_iconst (v := nI (4)) hx hb dX4_bribed_56 (by decide) ?_
            refine ro_i (roV_run (As := [.int (nI i), .int (nI 4)]) (rest := [.int (nI (drk (f 5 (f 8 (6 * i + 0))) ((f 4) (f 8 (6 * i + 3))) (f 8 (6 * i + 1)) (f 8 (6 * i + 2))))]) hx hb hml hown hts Tg_M (c_X4_fact l D G _ ad n f k b tr i 4 (by omega) (by omega) (by omega)) lk_RX4_147 ⟨rfl, rfl, Nat.le_of_ble_eq_true rfl, Nat.le_of_ble_eq_true rfl⟩ hP hK [0, 5, 6, 7] rfl 0 3 rfl rfl rfl rfl hl rfl (Nat.le_of_ble_eq_true rfl) dX4_bribed_57 ⟨Nat.le_of_ble_eq_true rfl, Nat.le_of_ble_eq_true rfl⟩) hS hA (fun locs hS => ?_)
            refine n_icmp_eq (tgt := 74) hx hb dX4_bribed_60 (by decide) (by omega) (by omega) (fun c_60 => ?_) (fun c_60 => ?_)
            · refine lv_iinc (v := nI (i + 1)) (lv' := [(2, .int (nI (i + 1))), (4, .int (nI ((f 4) (f 8 (6 * i + 3))))), (3, .int (nI 1)), (0, .ref (ad 0)), (1, .int (bb))]) hx hb dX4_bribed_74 hl (k := 4) rfl (nI_inc _ _) (by decide) rfl (fun ls hl => ?_)
              refine lv_goto (tgt := 4) hx hb dX4_bribed_77 (by decide) ?_
              exact ih_2 (i + 1) (bb) (by omega) (by rw [hu, show n 8 - i = (n 8 - (i + 1)) + 1 by omega, brS, if_neg (fun z => z.2 c_60)]) (by omega) locs hS _ (lv_sub hl [3, 4, 0] rfl)
            · refine lv_iload_n hx hb dX4_bribed_63 rfl (lv_at hl 3 rfl) ?_
              refine lv_iconst (v := nI (1)) hx hb dX4_bribed_64 (by decide) ?_
              refine lv_aload_n hx hb dX4_bribed_65 rfl (lv_at hl 2 rfl) ?_
              refine lv_iload_n hx hb dX4_bribed_66 rfl (lv_at hl 4 rfl) ?_
              refine lv_iconst (v := nI (0)) hx hb dX4_bribed_67 (by decide) ?_
              refine ro_i (roV_run (As := [.int (nI i), .int (nI 0)]) (rest := [.int (nI 1), .int (bb)]) hx hb hml hown hts Tg_M (c_X4_fact l D G _ ad n f k b tr i 0 (by omega) (by omega) (by omega)) lk_RX4_147 ⟨rfl, rfl, Nat.le_of_ble_eq_true rfl, Nat.le_of_ble_eq_true rfl⟩ hP hK [0, 5, 6, 7] rfl 0 3 rfl rfl rfl rfl hl rfl (Nat.le_of_ble_eq_true rfl) dX4_bribed_68 ⟨Nat.le_of_ble_eq_true rfl, Nat.le_of_ble_eq_true rfl⟩) hS hA (fun locs hS => ?_)
              refine lv_ishl hx hb dX4_bribed_71 ?_
              refine lv_ior hx hb dX4_bribed_72 ?_
              refine lv_istore_n (lv' := [(1, .int ((bb) ||| (nI (1) <<< (nI (f 8 (6 * i + 0)) &&& 31)))), (4, .int (nI ((f 4) (f 8 (6 * i + 3))))), (3, .int (nI 1)), (0, .ref (ad 0)), (2, .int (nI i))]) hx hb dX4_bribed_73 rfl hl (by decide) rfl (fun ls hl => ?_)
              refine lv_iinc (v := nI (i + 1)) (lv' := [(2, .int (nI (i + 1))), (1, .int ((bb) ||| (nI (1) <<< (nI (f 8 (6 * i + 0)) &&& 31)))), (4, .int (nI ((f 4) (f 8 (6 * i + 3))))), (3, .int (nI 1)), (0, .ref (ad 0))]) hx hb dX4_bribed_74 hl (k := 4) rfl (nI_inc _ _) (by decide) rfl (fun ls hl => ?_)
              refine lv_goto (tgt := 4) hx hb dX4_bribed_77 (by decide) ?_
              exact ih_2 (i + 1) (((bb) ||| (nI (1) <<< (nI (f 8 (6 * i + 0)) &&& 31)))) (by omega) (by rw [hu, show n 8 - i = (n 8 - (i + 1)) + 1 by omega, brS, if_pos ⟨c_19, c_60⟩]) (by omega) locs hS _ (lv_sub hl [4, 1, 0] rfl)
  exact loop_1 (n 8 - 0 + 1) (0) (nI 0) (by omega) (rfl) (Nat.lt_succ_self _) locs hS _ (lv_sub hl [2, 1, 0] rfl)

set_option maxHeartbeats 4000000 in
set_option maxRecDepth 100000 in
theorem c_X4_memory (l : Launch) (D : va_G) (G : ClassId × ClassId × ClassId) (H0 : Heap) (ad n : Nat → Nat) (f : Nat → Nat → Nat) (k : Nat → Nat) (b : Nat → Bool) (tr : Int64) (q : Nat) (a a2 a3 a4 : Int32) (hI : XI n f k q) : Met l yX4_memory (wM yX4_memory cX4_memory 8 (some .int)) (rmD 4) (rP D G [.ref (ad 0), .int (a), .int (a2), .int (a3), .int (a4)] [(ad 0, .inr (3, [.ref (ad 1), .ref (ad 10), .ref (ad 12), .ref (ad 14), .ref (ad 16), .ref (ad 21), .ref (ad 26), .int (bI (b 1)), .int (bI (b 2)), .long (tr)])), (ad 12, .inr (2, [.ref (ad 13), .int (nI (n 5))])), (ad 13, .inl (G.1, 6, .inl (nF (f 5)))), (ad 16, .inr (0, [.ref (ad 17), .ref (ad 19), .int (nI (k 5))]))] H0) (rQi (spMem n f k a a2 a3 a4) H0) 0 0 (rF H0) := by
  refine ro_start (Qc := fun H0 => (rQi (spMem n f k a a2 a3 a4) H0)) (by decide) (Nat.le_of_ble_eq_true rfl) ?_
  intro p e s m args below meth c hx hb hr hts hown hlocks hml hP hK hA hH0 ls hl locs hS
  have hl : lv_has ls 8 [(0, .ref (ad 0)), (1, .int (a)), (2, .int (a2)), (3, .int (a3)), (4, .int (a4))] := hl
  have hI0 := hI
  obtain ⟨i4, i5, i6, iq, iw, il, i7, i8, ih9, ik, iF⟩ := hI
  refine lv_aload_n hx hb dX4_memory_0 rfl (lv_at hl 0 rfl) ?_
  refine lv_iload_n hx hb dX4_memory_1 rfl (lv_at hl 1 rfl) ?_
  refine ro_i (roV_run (As := [.int (a)]) (rest := []) hx hb hml hown hts Tg_M (c_X4_isTaster l D G _ ad n f k b tr (a) ) lk_RX4_106 ⟨rfl, rfl, Nat.le_of_ble_eq_true rfl, Nat.le_of_ble_eq_true rfl⟩ hP hK [0, 1, 2] rfl 0 3 rfl rfl rfl rfl hl rfl (Nat.le_of_ble_eq_true rfl) dX4_memory_2 ⟨Nat.le_of_ble_eq_true rfl, Nat.le_of_ble_eq_true rfl⟩) hS hA (fun locs hS => ?_)
  refine b_if_eq (tgt := 19) hx hb dX4_memory_5 (by decide) (fun c_5 => ?_) (fun c_5 => ?_)
  · have e_t := ix_no c_5
    refine lv_iconst (v := (-1)) hx hb dX4_memory_19 (by decide) ?_
    exact ro_iret hx hb hr hlocks hS dX4_memory_20 (by simp only [spMem, e_t, Option.elim])
  · obtain ⟨t, h_t, rfl⟩ := hasB_N (by omega) c_5
    have e_t := ix_yes h_t (show n 5 < 2 ^ 31 by omega)
    refine lv_iload_n hx hb dX4_memory_8 rfl (lv_at hl 2 rfl) ?_
    refine lv_iconst (v := nI (0)) hx hb dX4_memory_9 (by decide) ?_
    refine lv_sipush (v := nI (999)) hx hb dX4_memory_10 (by decide) ?_
    refine ro_i (roS_run (As := [.int (a2), .int (nI 0), .int (nI 999)]) (rest := []) hx hb hml hown hts Tg_M (c_X4_isWithin l D G _ (a2) (nI (0)) (nI (999))) lk_RX4_55 ⟨rfl, rfl, Nat.le_of_ble_eq_true rfl, Nat.le_of_ble_eq_true rfl⟩ hP hK [] rfl rfl hl rfl (Nat.le_of_ble_eq_true rfl) dX4_memory_13 ⟨Nat.le_of_ble_eq_true rfl, Nat.le_of_ble_eq_true rfl⟩) hS hA (fun locs hS => ?_)
    refine b_if_ne (tgt := 21) hx hb dX4_memory_16 (by decide) (fun c_16 => ?_) (fun c_16 => ?_)
    · obtain ⟨cu, g_cu, h_cu, rfl⟩ := inR_N (by decide) (by decide) c_16
      have e_cu := ir_yes g_cu h_cu (by decide)
      refine lv_iload_n hx hb dX4_memory_21 rfl (lv_at hl 3 rfl) ?_
      refine lv_iconst (v := nI (0)) hx hb dX4_memory_22 (by decide) ?_
      refine lv_bipush (v := nI (20)) hx hb dX4_memory_23 (by decide) ?_
      refine ro_i (roS_run (As := [.int (a3), .int (nI 0), .int (nI 20)]) (rest := []) hx hb hml hown hts Tg_M (c_X4_isWithin l D G _ (a3) (nI (0)) (nI (20))) lk_RX4_55 ⟨rfl, rfl, Nat.le_of_ble_eq_true rfl, Nat.le_of_ble_eq_true rfl⟩ hP hK [] rfl rfl hl rfl (Nat.le_of_ble_eq_true rfl) dX4_memory_25 ⟨Nat.le_of_ble_eq_true rfl, Nat.le_of_ble_eq_true rfl⟩) hS hA (fun locs hS => ?_)
      refine b_if_eq (tgt := 41) hx hb dX4_memory_28 (by decide) (fun c_28 => ?_) (fun c_28 => ?_)
      · have e_y := ir_no c_28
        refine lv_iconst (v := (-1)) hx hb dX4_memory_41 (by decide) ?_
        exact ro_iret hx hb hr hlocks hS dX4_memory_42 (by simp only [spMem, e_t, e_cu, e_y, Option.elim])
      · obtain ⟨y, g_y, h_y, rfl⟩ := inR_N (by decide) (by decide) c_28
        have e_y := ir_yes g_y h_y (by decide)
        refine lv_iload hx hb dX4_memory_31 (lv_at hl 4 rfl) ?_
        refine lv_iconst (v := nI (0)) hx hb dX4_memory_33 (by decide) ?_
        refine lv_iconst (v := nI (1)) hx hb dX4_memory_34 (by decide) ?_
        refine ro_i (roS_run (As := [.int (a4), .int (nI 0), .int (nI 1)]) (rest := []) hx hb hml hown hts Tg_M (c_X4_isWithin l D G _ (a4) (nI (0)) (nI (1))) lk_RX4_55 ⟨rfl, rfl, Nat.le_of_ble_eq_true rfl, Nat.le_of_ble_eq_true rfl⟩ hP hK [] rfl rfl hl rfl (Nat.le_of_ble_eq_true rfl) dX4_memory_35 ⟨Nat.le_of_ble_eq_true rfl, Nat.le_of_ble_eq_true rfl⟩) hS hA (fun locs hS => ?_)
        refine b_if_ne (tgt := 43) hx hb dX4_memory_38 (by decide) (fun c_38 => ?_) (fun c_38 => ?_)
        · obtain ⟨wh, g_wh, h_wh, rfl⟩ := inR_N (by decide) (by decide) c_38
          have e_wh := ir_yes g_wh h_wh (by decide)
          have e1 := il t h_t
          rcases (show wh = 0 ∨ wh = 1 by omega) with rfl | rfl
          · refine lv_bipush (v := (-9)) hx hb dX4_memory_43 (by decide) ?_
            refine lv_istore (lv' := [(5, .int (-9)), (0, .ref (ad 0)), (1, .int (nI t)), (2, .int (nI cu)), (3, .int (nI y)), (4, .int (nI 0))]) hx hb dX4_memory_45 hl (by decide) rfl (fun ls hl => ?_)
            refine lv_iconst (v := nI (0)) hx hb dX4_memory_47 (by decide) ?_
            refine lv_istore (lv' := [(6, .int (nI 0)), (5, .int (-9)), (0, .ref (ad 0)), (1, .int (nI t)), (2, .int (nI cu)), (3, .int (nI y)), (4, .int (nI 0))]) hx hb dX4_memory_48 hl (by decide) rfl (fun ls hl => ?_)
            have loop_1 : ∀ (fuel : Nat) (w : Nat) (o : Option (Nat × Nat)), (w ≤ 61) → (optB o 60 60) → (meS (fun w => drk (f 5 t) w 0 (k 5)) cu y 61 0 none = meS (fun w => drk (f 5 t) w 0 (k 5)) cu y (61 - w) w o) → (61 - w) < fuel → ∀ (locs : List Loc), va_S (rF s.heap) s.heap s.heap locs → ∀ (ls : Array Slot), lv_has ls 8 [(0, .ref (ad 0)), (1, .int (nI t)), (2, .int (nI cu)), (3, .int (nI y)), (4, .int (nI 0)), (5, .int (optI o 0)), (6, .int (nI w))] → W p l e (rmD 4) s m args below meth c s.heap locs 0 0 (MQ below (rQi (spMem n f k (nI (t)) (nI (cu)) (nI (y)) (nI (0))) s.heap) args s 0 0 (rF s.heap)) (F0 m 50 ls []) := by
              intro fuel
              induction fuel with
              | zero => intro w o hi1 ho hu hfu; exact absurd hfu (Nat.not_lt_zero _)
              | succ fuel ih_2 =>
                intro w o hi1 ho hu hfu locs hS ls hl
                rcases o with _ | ⟨bt, bf⟩
                · have hl : lv_has ls 8 [(0, .ref (ad 0)), (1, .int (nI t)), (2, .int (nI cu)), (3, .int (nI y)), (4, .int (nI 0)), (5, .int (-9)), (6, .int (nI w))] := hl
                  refine lv_iload hx hb dX4_memory_50 (lv_at hl 6 rfl) ?_
                  refine lv_bipush (v := nI (60)) hx hb dX4_memory_52 (by decide) ?_
                  refine n_icmp_gt (tgt := 114) hx hb dX4_memory_54 (by decide) (by omega) (by omega) (fun c_54 => ?_) (fun c_54 => ?_)
                  · refine lv_iload hx hb dX4_memory_114 (lv_at hl 5 rfl) ?_
                    exact ro_iret hx hb hr hlocks hS dX4_memory_116 (by simp only [spMem, e_t, e_cu, e_y, e_wh, Option.elim]; rw [hu, show 61 - w = 0 by omega, meS]; rfl)
                  · refine lv_aload_n hx hb dX4_memory_57 rfl (lv_at hl 0 rfl) ?_
                    refine va_get (D := D) (ci := 3) (v := .ref (ad 12)) (C := RX4) (T := TX4) (N := 10) hx hb hts (iX4) hown hK hP 0 rfl rfl 2 (by decide) (hts _ (List.mem_cons_of_mem _ wt_158)) (fun _ h9 => h9) rfl dX4_memory_58 ?_
                    refine lv_iload_n hx hb dX4_memory_61 rfl (lv_at hl 1 rfl) ?_
                    refine ro_i (roV_run (As := [.int (nI t)]) (rest := []) hx hb hml hown hts Tg_M (c_X3_at l D G _ (ad 12) (ad 13) 6 (n 5) (f 5) t (by omega) (by omega) (by omega)) lk_RX4_102 ⟨rfl, rfl, Nat.le_of_ble_eq_true rfl, Nat.le_of_ble_eq_true rfl⟩ hP hK [1, 2] rfl 1 2 rfl rfl rfl rfl hl rfl (Nat.le_of_ble_eq_true rfl) dX4_memory_62 ⟨Nat.le_of_ble_eq_true rfl, Nat.le_of_ble_eq_true rfl⟩) hS hA (fun locs hS => ?_)
                    refine lv_iload hx hb dX4_memory_65 (lv_at hl 6 rfl) ?_
                    refine lv_iconst (v := nI (0)) hx hb dX4_memory_67 (by decide) ?_
                    refine lv_aload_n hx hb dX4_memory_68 rfl (lv_at hl 0 rfl) ?_
                    refine va_get (D := D) (ci := 3) (v := .ref (ad 16)) (C := RX4) (T := TX4) (N := 10) hx hb hts (iX4) hown hK hP 0 rfl rfl 4 (by decide) (hts _ (List.mem_cons_of_mem _ wt_160)) (fun _ h9 => h9) rfl dX4_memory_69 ?_
                    refine va_get (D := D) (ci := 0) (v := .int (nI (k 5))) (C := RX1) (T := TX1) (N := 3) hx hb hts (iX1) hown hK hP 3 rfl rfl 2 (by decide) (hts _ (List.mem_cons_of_mem _ wt_148)) (fun _ h9 => h9) rfl dX4_memory_72 ?_
                    refine ro_i (roS_run (As := [.int (nI ((f 5) t)), .int (nI w), .int (nI 0), .int (nI (k 5))]) (rest := []) hx hb hml hown hts Tg_M (c_X0_drinks l D G _ ((f 5) t) w 0 (k 5) e1 (by omega) (by omega) (by omega)) lk_RX4_122 ⟨rfl, rfl, Nat.le_of_ble_eq_true rfl, Nat.le_of_ble_eq_true rfl⟩ hP hK [] rfl rfl hl rfl (Nat.le_of_ble_eq_true rfl) dX4_memory_75 ⟨Nat.le_of_ble_eq_true rfl, Nat.le_of_ble_eq_true rfl⟩) hS hA (fun locs hS => ?_)
                    refine lv_iload_n hx hb dX4_memory_78 rfl (lv_at hl 2 rfl) ?_
                    have eD := drk_lt (w := w) e1 (by omega) (show 0 ≤ 4096 by omega) ih9
                    refine lv_isub hx hb dX4_memory_79 ?_
                    refine va_mabs hx hb (hml.trans hl.1.symm) hown (hts _ (List.mem_cons_of_mem _ wt_532)) (hts _ (List.mem_cons_of_mem _ wt_533)) (hts _ (List.mem_cons_of_mem _ wt_55)) (hts _ (List.mem_cons_of_mem _ wt_534)) (Nat.le_of_ble_eq_true rfl) (Nat.le_of_ble_eq_true rfl) (Nat.le_of_ble_eq_true rfl) (Nat.le_of_ble_eq_true rfl) dX4_memory_80 ?_
                    refine n_tope (show (if 0 ≤ (nI (drk ((f 5) t) w 0 (k 5)) - nI (cu)) then (nI (drk ((f 5) t) w 0 (k 5)) - nI (cu)) else 0 - (nI (drk ((f 5) t) w 0 (k 5)) - nI (cu))) = nI (if cu ≤ drk (f 5 t) w 0 (k 5) then drk (f 5 t) w 0 (k 5) - cu else cu - drk (f 5 t) w 0 (k 5)) from absd (by omega) (by omega)) ?_
                    refine lv_istore (lv' := [(7, .int (nI (if cu ≤ drk (f 5 t) w 0 (k 5) then drk (f 5 t) w 0 (k 5) - cu else cu - drk (f 5 t) w 0 (k 5)))), (0, .ref (ad 0)), (1, .int (nI t)), (2, .int (nI cu)), (3, .int (nI y)), (4, .int (nI 0)), (5, .int (-9)), (6, .int (nI w))]) hx hb dX4_memory_83 hl (by decide) rfl (fun ls hl => ?_)
                    refine lv_iload hx hb dX4_memory_85 (lv_at hl 0 rfl) ?_
                    refine lv_iload_n hx hb dX4_memory_87 rfl (lv_at hl 4 rfl) ?_
                    refine n_icmp_gt (tgt := 108) hx hb dX4_memory_88 (by decide) (by split <;> omega) (by omega) (fun c_88 => ?_) (fun c_88 => ?_)
                    · refine lv_iinc (v := nI (w + 1)) (lv' := [(6, .int (nI (w + 1))), (7, .int (nI (if cu ≤ drk (f 5 t) w 0 (k 5) then drk (f 5 t) w 0 (k 5) - cu else cu - drk (f 5 t) w 0 (k 5)))), (0, .ref (ad 0)), (1, .int (nI t)), (2, .int (nI cu)), (3, .int (nI y)), (4, .int (nI 0)), (5, .int (-9))]) hx hb dX4_memory_108 hl (k := 7) rfl (nI_inc _ _) (by decide) rfl (fun ls hl => ?_)
                      refine lv_goto (tgt := 50) hx hb dX4_memory_111 (by decide) ?_
                      exact ih_2 (w + 1) (none) (by omega) (ho) (by rw [hu, show 61 - w = (61 - (w + 1)) + 1 by omega, meS, if_neg (by split at c_88 <;> omega)]) (by omega) locs hS _ (lv_sub hl [2, 3, 4, 5, 6, 7, 0] rfl)
                    · refine lv_iload hx hb dX4_memory_91 (lv_at hl 5 rfl) ?_
                      refine lv_iconst (v := nI (1)) hx hb dX4_memory_93 (by decide) ?_
                      refine n_icmp_eq (tgt := 104) hx hb dX4_memory_94 (by decide) (by omega) (by omega) (fun c_94 => ?_) (fun c_94 => ?_)
                      · exact absurd c_94 (by decide)
                      · refine lv_iload hx hb dX4_memory_97 (lv_at hl 6 rfl) ?_
                        refine lv_bipush (v := (-9)) hx hb dX4_memory_99 (by decide) ?_
                        refine lv_icmp_ne (tgt := 108) hx hb dX4_memory_101 (by decide) (fun c_101 => ?_) (fun c_101 => ?_)
                        · exact absurd rfl c_101
                        · refine lv_iload hx hb dX4_memory_104 (lv_at hl 7 rfl) ?_
                          refine lv_istore (lv' := [(5, .int (nI w)), (7, .int (nI (if cu ≤ drk (f 5 t) w 0 (k 5) then drk (f 5 t) w 0 (k 5) - cu else cu - drk (f 5 t) w 0 (k 5)))), (0, .ref (ad 0)), (1, .int (nI t)), (2, .int (nI cu)), (3, .int (nI y)), (4, .int (nI 0)), (6, .int (nI w))]) hx hb dX4_memory_106 hl (by decide) rfl (fun ls hl => ?_)
                          refine lv_iinc (v := nI (w + 1)) (lv' := [(6, .int (nI (w + 1))), (5, .int (nI w)), (7, .int (nI (if cu ≤ drk (f 5 t) w 0 (k 5) then drk (f 5 t) w 0 (k 5) - cu else cu - drk (f 5 t) w 0 (k 5)))), (0, .ref (ad 0)), (1, .int (nI t)), (2, .int (nI cu)), (3, .int (nI y)), (4, .int (nI 0))]) hx hb dX4_memory_108 hl (k := 7) rfl (nI_inc _ _) (by decide) rfl (fun ls hl => ?_)
                          refine lv_goto (tgt := 50) hx hb dX4_memory_111 (by decide) ?_
                          exact ih_2 (w + 1) (some (w, w)) (by omega) (⟨by omega, by omega⟩) (by rw [hu, show 61 - w = (61 - (w + 1)) + 1 by omega, meS, if_pos (by split at c_88 <;> omega)]) (by omega) locs hS _ (lv_sub hl [3, 4, 5, 6, 7, 1, 0] rfl)
                · have hl : lv_has ls 8 [(0, .ref (ad 0)), (1, .int (nI t)), (2, .int (nI cu)), (3, .int (nI y)), (4, .int (nI 0)), (5, .int (nI bt)), (6, .int (nI w))] := hl
                  have ho1 := ho.1
                  have ho2 := ho.2
                  refine lv_iload hx hb dX4_memory_50 (lv_at hl 6 rfl) ?_
                  refine lv_bipush (v := nI (60)) hx hb dX4_memory_52 (by decide) ?_
                  refine n_icmp_gt (tgt := 114) hx hb dX4_memory_54 (by decide) (by omega) (by omega) (fun c_54 => ?_) (fun c_54 => ?_)
                  · refine lv_iload hx hb dX4_memory_114 (lv_at hl 5 rfl) ?_
                    exact ro_iret hx hb hr hlocks hS dX4_memory_116 (by simp only [spMem, e_t, e_cu, e_y, e_wh, Option.elim]; rw [hu, show 61 - w = 0 by omega, meS]; rfl)
                  · refine lv_aload_n hx hb dX4_memory_57 rfl (lv_at hl 0 rfl) ?_
                    refine va_get (D := D) (ci := 3) (v := .ref (ad 12)) (C := RX4) (T := TX4) (N := 10) hx hb hts (iX4) hown hK hP 0 rfl rfl 2 (by decide) (hts _ (List.mem_cons_of_mem _ wt_158)) (fun _ h9 => h9) rfl dX4_memory_58 ?_
                    refine lv_iload_n hx hb dX4_memory_61 rfl (lv_at hl 1 rfl) ?_
                    refine ro_i (roV_run (As := [.int (nI t)]) (rest := []) hx hb hml hown hts Tg_M (c_X3_at l D G _ (ad 12) (ad 13) 6 (n 5) (f 5) t (by omega) (by omega) (by omega)) lk_RX4_102 ⟨rfl, rfl, Nat.le_of_ble_eq_true rfl, Nat.le_of_ble_eq_true rfl⟩ hP hK [1, 2] rfl 1 2 rfl rfl rfl rfl hl rfl (Nat.le_of_ble_eq_true rfl) dX4_memory_62 ⟨Nat.le_of_ble_eq_true rfl, Nat.le_of_ble_eq_true rfl⟩) hS hA (fun locs hS => ?_)
                    refine lv_iload hx hb dX4_memory_65 (lv_at hl 6 rfl) ?_
                    refine lv_iconst (v := nI (0)) hx hb dX4_memory_67 (by decide) ?_
                    refine lv_aload_n hx hb dX4_memory_68 rfl (lv_at hl 0 rfl) ?_
                    refine va_get (D := D) (ci := 3) (v := .ref (ad 16)) (C := RX4) (T := TX4) (N := 10) hx hb hts (iX4) hown hK hP 0 rfl rfl 4 (by decide) (hts _ (List.mem_cons_of_mem _ wt_160)) (fun _ h9 => h9) rfl dX4_memory_69 ?_
                    refine va_get (D := D) (ci := 0) (v := .int (nI (k 5))) (C := RX1) (T := TX1) (N := 3) hx hb hts (iX1) hown hK hP 3 rfl rfl 2 (by decide) (hts _ (List.mem_cons_of_mem _ wt_148)) (fun _ h9 => h9) rfl dX4_memory_72 ?_
                    refine ro_i (roS_run (As := [.int (nI ((f 5) t)), .int (nI w), .int (nI 0), .int (nI (k 5))]) (rest := []) hx hb hml hown hts Tg_M (c_X0_drinks l D G _ ((f 5) t) w 0 (k 5) e1 (by omega) (by omega) (by omega)) lk_RX4_122 ⟨rfl, rfl, Nat.le_of_ble_eq_true rfl, Nat.le_of_ble_eq_true rfl⟩ hP hK [] rfl rfl hl rfl (Nat.le_of_ble_eq_true rfl) dX4_memory_75 ⟨Nat.le_of_ble_eq_true rfl, Nat.le_of_ble_eq_true rfl⟩) hS hA (fun locs hS => ?_)
                    refine lv_iload_n hx hb dX4_memory_78 rfl (lv_at hl 2 rfl) ?_
                    have eD := drk_lt (w := w) e1 (by omega) (show 0 ≤ 4096 by omega) ih9
                    refine lv_isub hx hb dX4_memory_79 ?_
                    refine va_mabs hx hb (hml.trans hl.1.symm) hown (hts _ (List.mem_cons_of_mem _ wt_532)) (hts _ (List.mem_cons_of_mem _ wt_533)) (hts _ (List.mem_cons_of_mem _ wt_55)) (hts _ (List.mem_cons_of_mem _ wt_534)) (Nat.le_of_ble_eq_true rfl) (Nat.le_of_ble_eq_true rfl) (Nat.le_of_ble_eq_true rfl) (Nat.le_of_ble_eq_true rfl) dX4_memory_80 ?_
                    refine n_tope (show (if 0 ≤ (nI (drk ((f 5) t) w 0 (k 5)) - nI (cu)) then (nI (drk ((f 5) t) w 0 (k 5)) - nI (cu)) else 0 - (nI (drk ((f 5) t) w 0 (k 5)) - nI (cu))) = nI (if cu ≤ drk (f 5 t) w 0 (k 5) then drk (f 5 t) w 0 (k 5) - cu else cu - drk (f 5 t) w 0 (k 5)) from absd (by omega) (by omega)) ?_
                    refine lv_istore (lv' := [(7, .int (nI (if cu ≤ drk (f 5 t) w 0 (k 5) then drk (f 5 t) w 0 (k 5) - cu else cu - drk (f 5 t) w 0 (k 5)))), (0, .ref (ad 0)), (1, .int (nI t)), (2, .int (nI cu)), (3, .int (nI y)), (4, .int (nI 0)), (5, .int (nI bt)), (6, .int (nI w))]) hx hb dX4_memory_83 hl (by decide) rfl (fun ls hl => ?_)
                    refine lv_iload hx hb dX4_memory_85 (lv_at hl 0 rfl) ?_
                    refine lv_iload_n hx hb dX4_memory_87 rfl (lv_at hl 4 rfl) ?_
                    refine n_icmp_gt (tgt := 108) hx hb dX4_memory_88 (by decide) (by split <;> omega) (by omega) (fun c_88 => ?_) (fun c_88 => ?_)
                    · refine lv_iinc (v := nI (w + 1)) (lv' := [(6, .int (nI (w + 1))), (7, .int (nI (if cu ≤ drk (f 5 t) w 0 (k 5) then drk (f 5 t) w 0 (k 5) - cu else cu - drk (f 5 t) w 0 (k 5)))), (0, .ref (ad 0)), (1, .int (nI t)), (2, .int (nI cu)), (3, .int (nI y)), (4, .int (nI 0)), (5, .int (nI bt))]) hx hb dX4_memory_108 hl (k := 7) rfl (nI_inc _ _) (by decide) rfl (fun ls hl => ?_)
                      refine lv_goto (tgt := 50) hx hb dX4_memory_111 (by decide) ?_
                      exact ih_2 (w + 1) (some (bt, bf)) (by omega) (ho) (by rw [hu, show 61 - w = (61 - (w + 1)) + 1 by omega, meS, if_neg (by split at c_88 <;> omega)]) (by omega) locs hS _ (lv_sub hl [2, 3, 4, 5, 6, 7, 0] rfl)
                    · refine lv_iload hx hb dX4_memory_91 (lv_at hl 5 rfl) ?_
                      refine lv_iconst (v := nI (1)) hx hb dX4_memory_93 (by decide) ?_
                      refine n_icmp_eq (tgt := 104) hx hb dX4_memory_94 (by decide) (by omega) (by omega) (fun c_94 => ?_) (fun c_94 => ?_)
                      · exact absurd c_94 (by decide)
                      · refine lv_iload hx hb dX4_memory_97 (lv_at hl 6 rfl) ?_
                        refine lv_bipush (v := (-9)) hx hb dX4_memory_99 (by decide) ?_
                        refine lv_icmp_ne (tgt := 108) hx hb dX4_memory_101 (by decide) (fun c_101 => ?_) (fun c_101 => ?_)
                        · refine lv_iinc (v := nI (w + 1)) (lv' := [(6, .int (nI (w + 1))), (7, .int (nI (if cu ≤ drk (f 5 t) w 0 (k 5) then drk (f 5 t) w 0 (k 5) - cu else cu - drk (f 5 t) w 0 (k 5)))), (0, .ref (ad 0)), (1, .int (nI t)), (2, .int (nI cu)), (3, .int (nI y)), (4, .int (nI 0)), (5, .int (nI bt))]) hx hb dX4_memory_108 hl (k := 7) rfl (nI_inc _ _) (by decide) rfl (fun ls hl => ?_)
                          refine lv_goto (tgt := 50) hx hb dX4_memory_111 (by decide) ?_
                          exact ih_2 (w + 1) (some (bt, w)) (by omega) (⟨by omega, by omega⟩) (by rw [hu, show 61 - w = (61 - (w + 1)) + 1 by omega, meS, if_pos (by split at c_88 <;> omega)]) (by omega) locs hS _ (lv_sub hl [2, 3, 4, 5, 6, 7, 0] rfl)
                        · exact absurd c_101 (nI_ne9 (by omega))
            exact loop_1 (61 - 0 + 1) (0) (none) (by omega) (trivial) (rfl) (Nat.lt_succ_self _) locs hS _ (lv_sub hl [2, 3, 4, 5, 6, 1, 0] rfl)
          · refine lv_bipush (v := (-9)) hx hb dX4_memory_43 (by decide) ?_
            refine lv_istore (lv' := [(5, .int (-9)), (0, .ref (ad 0)), (1, .int (nI t)), (2, .int (nI cu)), (3, .int (nI y)), (4, .int (nI 1))]) hx hb dX4_memory_45 hl (by decide) rfl (fun ls hl => ?_)
            refine lv_iconst (v := nI (0)) hx hb dX4_memory_47 (by decide) ?_
            refine lv_istore (lv' := [(6, .int (nI 0)), (5, .int (-9)), (0, .ref (ad 0)), (1, .int (nI t)), (2, .int (nI cu)), (3, .int (nI y)), (4, .int (nI 1))]) hx hb dX4_memory_48 hl (by decide) rfl (fun ls hl => ?_)
            have loop_3 : ∀ (fuel : Nat) (w : Nat) (o : Option (Nat × Nat)), (w ≤ 61) → (optB o 60 60) → (meS (fun w => drk (f 5 t) w 0 (k 5)) cu y 61 0 none = meS (fun w => drk (f 5 t) w 0 (k 5)) cu y (61 - w) w o) → (61 - w) < fuel → ∀ (locs : List Loc), va_S (rF s.heap) s.heap s.heap locs → ∀ (ls : Array Slot), lv_has ls 8 [(0, .ref (ad 0)), (1, .int (nI t)), (2, .int (nI cu)), (3, .int (nI y)), (4, .int (nI 1)), (5, .int (optI o 1)), (6, .int (nI w))] → W p l e (rmD 4) s m args below meth c s.heap locs 0 0 (MQ below (rQi (spMem n f k (nI (t)) (nI (cu)) (nI (y)) (nI (1))) s.heap) args s 0 0 (rF s.heap)) (F0 m 50 ls []) := by
              intro fuel
              induction fuel with
              | zero => intro w o hi1 ho hu hfu; exact absurd hfu (Nat.not_lt_zero _)
              | succ fuel ih_4 =>
                intro w o hi1 ho hu hfu locs hS ls hl
                rcases o with _ | ⟨bt, bf⟩
                · have hl : lv_has ls 8 [(0, .ref (ad 0)), (1, .int (nI t)), (2, .int (nI cu)), (3, .int (nI y)), (4, .int (nI 1)), (5, .int (-9)), (6, .int (nI w))] := hl
                  refine lv_iload hx hb dX4_memory_50 (lv_at hl 6 rfl) ?_
                  refine lv_bipush (v := nI (60)) hx hb dX4_memory_52 (by decide) ?_
                  refine n_icmp_gt (tgt := 114) hx hb dX4_memory_54 (by decide) (by omega) (by omega) (fun c_54 => ?_) (fun c_54 => ?_)
                  · refine lv_iload hx hb dX4_memory_114 (lv_at hl 5 rfl) ?_
                    exact ro_iret hx hb hr hlocks hS dX4_memory_116 (by simp only [spMem, e_t, e_cu, e_y, e_wh, Option.elim]; rw [hu, show 61 - w = 0 by omega, meS]; rfl)
                  · refine lv_aload_n hx hb dX4_memory_57 rfl (lv_at hl 0 rfl) ?_
                    refine va_get (D := D) (ci := 3) (v := .ref (ad 12)) (C := RX4) (T := TX4) (N := 10) hx hb hts (iX4) hown hK hP 0 rfl rfl 2 (by decide) (hts _ (List.mem_cons_of_mem _ wt_158)) (fun _ h9 => h9) rfl dX4_memory_58 ?_
                    refine lv_iload_n hx hb dX4_memory_61 rfl (lv_at hl 1 rfl) ?_
                    refine ro_i (roV_run (As := [.int (nI t)]) (rest := []) hx hb hml hown hts Tg_M (c_X3_at l D G _ (ad 12) (ad 13) 6 (n 5) (f 5) t (by omega) (by omega) (by omega)) lk_RX4_102 ⟨rfl, rfl, Nat.le_of_ble_eq_true rfl, Nat.le_of_ble_eq_true rfl⟩ hP hK [1, 2] rfl 1 2 rfl rfl rfl rfl hl rfl (Nat.le_of_ble_eq_true rfl) dX4_memory_62 ⟨Nat.le_of_ble_eq_true rfl, Nat.le_of_ble_eq_true rfl⟩) hS hA (fun locs hS => ?_)
                    refine lv_iload hx hb dX4_memory_65 (lv_at hl 6 rfl) ?_
                    refine lv_iconst (v := nI (0)) hx hb dX4_memory_67 (by decide) ?_
                    refine lv_aload_n hx hb dX4_memory_68 rfl (lv_at hl 0 rfl) ?_
                    refine va_get (D := D) (ci := 3) (v := .ref (ad 16)) (C := RX4) (T := TX4) (N := 10) hx hb hts (iX4) hown hK hP 0 rfl rfl 4 (by decide) (hts _ (List.mem_cons_of_mem _ wt_160)) (fun _ h9 => h9) rfl dX4_memory_69 ?_
                    refine va_get (D := D) (ci := 0) (v := .int (nI (k 5))) (C := RX1) (T := TX1) (N := 3) hx hb hts (iX1) hown hK hP 3 rfl rfl 2 (by decide) (hts _ (List.mem_cons_of_mem _ wt_148)) (fun _ h9 => h9) rfl dX4_memory_72 ?_
                    refine ro_i (roS_run (As := [.int (nI ((f 5) t)), .int (nI w), .int (nI 0), .int (nI (k 5))]) (rest := []) hx hb hml hown hts Tg_M (c_X0_drinks l D G _ ((f 5) t) w 0 (k 5) e1 (by omega) (by omega) (by omega)) lk_RX4_122 ⟨rfl, rfl, Nat.le_of_ble_eq_true rfl, Nat.le_of_ble_eq_true rfl⟩ hP hK [] rfl rfl hl rfl (Nat.le_of_ble_eq_true rfl) dX4_memory_75 ⟨Nat.le_of_ble_eq_true rfl, Nat.le_of_ble_eq_true rfl⟩) hS hA (fun locs hS => ?_)
                    refine lv_iload_n hx hb dX4_memory_78 rfl (lv_at hl 2 rfl) ?_
                    have eD := drk_lt (w := w) e1 (by omega) (show 0 ≤ 4096 by omega) ih9
                    refine lv_isub hx hb dX4_memory_79 ?_
                    refine va_mabs hx hb (hml.trans hl.1.symm) hown (hts _ (List.mem_cons_of_mem _ wt_532)) (hts _ (List.mem_cons_of_mem _ wt_533)) (hts _ (List.mem_cons_of_mem _ wt_55)) (hts _ (List.mem_cons_of_mem _ wt_534)) (Nat.le_of_ble_eq_true rfl) (Nat.le_of_ble_eq_true rfl) (Nat.le_of_ble_eq_true rfl) (Nat.le_of_ble_eq_true rfl) dX4_memory_80 ?_
                    refine n_tope (show (if 0 ≤ (nI (drk ((f 5) t) w 0 (k 5)) - nI (cu)) then (nI (drk ((f 5) t) w 0 (k 5)) - nI (cu)) else 0 - (nI (drk ((f 5) t) w 0 (k 5)) - nI (cu))) = nI (if cu ≤ drk (f 5 t) w 0 (k 5) then drk (f 5 t) w 0 (k 5) - cu else cu - drk (f 5 t) w 0 (k 5)) from absd (by omega) (by omega)) ?_
                    refine lv_istore (lv' := [(7, .int (nI (if cu ≤ drk (f 5 t) w 0 (k 5) then drk (f 5 t) w 0 (k 5) - cu else cu - drk (f 5 t) w 0 (k 5)))), (0, .ref (ad 0)), (1, .int (nI t)), (2, .int (nI cu)), (3, .int (nI y)), (4, .int (nI 1)), (5, .int (-9)), (6, .int (nI w))]) hx hb dX4_memory_83 hl (by decide) rfl (fun ls hl => ?_)
                    refine lv_iload hx hb dX4_memory_85 (lv_at hl 0 rfl) ?_
                    refine lv_iload_n hx hb dX4_memory_87 rfl (lv_at hl 4 rfl) ?_
                    refine n_icmp_gt (tgt := 108) hx hb dX4_memory_88 (by decide) (by split <;> omega) (by omega) (fun c_88 => ?_) (fun c_88 => ?_)
                    · refine lv_iinc (v := nI (w + 1)) (lv' := [(6, .int (nI (w + 1))), (7, .int (nI (if cu ≤ drk (f 5 t) w 0 (k 5) then drk (f 5 t) w 0 (k 5) - cu else cu - drk (f 5 t) w 0 (k 5)))), (0, .ref (ad 0)), (1, .int (nI t)), (2, .int (nI cu)), (3, .int (nI y)), (4, .int (nI 1)), (5, .int (-9))]) hx hb dX4_memory_108 hl (k := 7) rfl (nI_inc _ _) (by decide) rfl (fun ls hl => ?_)
                      refine lv_goto (tgt := 50) hx hb dX4_memory_111 (by decide) ?_
                      exact ih_4 (w + 1) (none) (by omega) (ho) (by rw [hu, show 61 - w = (61 - (w + 1)) + 1 by omega, meS, if_neg (by split at c_88 <;> omega)]) (by omega) locs hS _ (lv_sub hl [2, 3, 4, 5, 6, 7, 0] rfl)
                    · refine lv_iload hx hb dX4_memory_91 (lv_at hl 5 rfl) ?_
                      refine lv_iconst (v := nI (1)) hx hb dX4_memory_93 (by decide) ?_
                      refine n_icmp_eq (tgt := 104) hx hb dX4_memory_94 (by decide) (by omega) (by omega) (fun c_94 => ?_) (fun c_94 => ?_)
                      · refine lv_iload hx hb dX4_memory_104 (lv_at hl 7 rfl) ?_
                        refine lv_istore (lv' := [(5, .int (nI w)), (7, .int (nI (if cu ≤ drk (f 5 t) w 0 (k 5) then drk (f 5 t) w 0 (k 5) - cu else cu - drk (f 5 t) w 0 (k 5)))), (0, .ref (ad 0)), (1, .int (nI t)), (2, .int (nI cu)), (3, .int (nI y)), (4, .int (nI 1)), (6, .int (nI w))]) hx hb dX4_memory_106 hl (by decide) rfl (fun ls hl => ?_)
                        refine lv_iinc (v := nI (w + 1)) (lv' := [(6, .int (nI (w + 1))), (5, .int (nI w)), (7, .int (nI (if cu ≤ drk (f 5 t) w 0 (k 5) then drk (f 5 t) w 0 (k 5) - cu else cu - drk (f 5 t) w 0 (k 5)))), (0, .ref (ad 0)), (1, .int (nI t)), (2, .int (nI cu)), (3, .int (nI y)), (4, .int (nI 1))]) hx hb dX4_memory_108 hl (k := 7) rfl (nI_inc _ _) (by decide) rfl (fun ls hl => ?_)
                        refine lv_goto (tgt := 50) hx hb dX4_memory_111 (by decide) ?_
                        exact ih_4 (w + 1) (some (w, w)) (by omega) (⟨by omega, by omega⟩) (by rw [hu, show 61 - w = (61 - (w + 1)) + 1 by omega, meS, if_pos (by split at c_88 <;> omega)]) (by omega) locs hS _ (lv_sub hl [3, 4, 5, 6, 7, 1, 0] rfl)
                      · exact absurd c_94 (by decide)
                · have hl : lv_has ls 8 [(0, .ref (ad 0)), (1, .int (nI t)), (2, .int (nI cu)), (3, .int (nI y)), (4, .int (nI 1)), (5, .int (nI bf)), (6, .int (nI w))] := hl
                  have ho1 := ho.1
                  have ho2 := ho.2
                  refine lv_iload hx hb dX4_memory_50 (lv_at hl 6 rfl) ?_
                  refine lv_bipush (v := nI (60)) hx hb dX4_memory_52 (by decide) ?_
                  refine n_icmp_gt (tgt := 114) hx hb dX4_memory_54 (by decide) (by omega) (by omega) (fun c_54 => ?_) (fun c_54 => ?_)
                  · refine lv_iload hx hb dX4_memory_114 (lv_at hl 5 rfl) ?_
                    exact ro_iret hx hb hr hlocks hS dX4_memory_116 (by simp only [spMem, e_t, e_cu, e_y, e_wh, Option.elim]; rw [hu, show 61 - w = 0 by omega, meS]; rfl)
                  · refine lv_aload_n hx hb dX4_memory_57 rfl (lv_at hl 0 rfl) ?_
                    refine va_get (D := D) (ci := 3) (v := .ref (ad 12)) (C := RX4) (T := TX4) (N := 10) hx hb hts (iX4) hown hK hP 0 rfl rfl 2 (by decide) (hts _ (List.mem_cons_of_mem _ wt_158)) (fun _ h9 => h9) rfl dX4_memory_58 ?_
                    refine lv_iload_n hx hb dX4_memory_61 rfl (lv_at hl 1 rfl) ?_
                    refine ro_i (roV_run (As := [.int (nI t)]) (rest := []) hx hb hml hown hts Tg_M (c_X3_at l D G _ (ad 12) (ad 13) 6 (n 5) (f 5) t (by omega) (by omega) (by omega)) lk_RX4_102 ⟨rfl, rfl, Nat.le_of_ble_eq_true rfl, Nat.le_of_ble_eq_true rfl⟩ hP hK [1, 2] rfl 1 2 rfl rfl rfl rfl hl rfl (Nat.le_of_ble_eq_true rfl) dX4_memory_62 ⟨Nat.le_of_ble_eq_true rfl, Nat.le_of_ble_eq_true rfl⟩) hS hA (fun locs hS => ?_)
                    refine lv_iload hx hb dX4_memory_65 (lv_at hl 6 rfl) ?_
                    refine lv_iconst (v := nI (0)) hx hb dX4_memory_67 (by decide) ?_
                    refine lv_aload_n hx hb dX4_memory_68 rfl (lv_at hl 0 rfl) ?_
                    refine va_get (D := D) (ci := 3) (v := .ref (ad 16)) (C := RX4) (T := TX4) (N := 10) hx hb hts (iX4) hown hK hP 0 rfl rfl 4 (by decide) (hts _ (List.mem_cons_of_mem _ wt_160)) (fun _ h9 => h9) rfl dX4_memory_69 ?_
                    refine va_get (D := D) (ci := 0) (v := .int (nI (k 5))) (C := RX1) (T := TX1) (N := 3) hx hb hts (iX1) hown hK hP 3 rfl rfl 2 (by decide) (hts _ (List.mem_cons_of_mem _ wt_148)) (fun _ h9 => h9) rfl dX4_memory_72 ?_
                    refine ro_i (roS_run (As := [.int (nI ((f 5) t)), .int (nI w), .int (nI 0), .int (nI (k 5))]) (rest := []) hx hb hml hown hts Tg_M (c_X0_drinks l D G _ ((f 5) t) w 0 (k 5) e1 (by omega) (by omega) (by omega)) lk_RX4_122 ⟨rfl, rfl, Nat.le_of_ble_eq_true rfl, Nat.le_of_ble_eq_true rfl⟩ hP hK [] rfl rfl hl rfl (Nat.le_of_ble_eq_true rfl) dX4_memory_75 ⟨Nat.le_of_ble_eq_true rfl, Nat.le_of_ble_eq_true rfl⟩) hS hA (fun locs hS => ?_)
                    refine lv_iload_n hx hb dX4_memory_78 rfl (lv_at hl 2 rfl) ?_
                    have eD := drk_lt (w := w) e1 (by omega) (show 0 ≤ 4096 by omega) ih9
                    refine lv_isub hx hb dX4_memory_79 ?_
                    refine va_mabs hx hb (hml.trans hl.1.symm) hown (hts _ (List.mem_cons_of_mem _ wt_532)) (hts _ (List.mem_cons_of_mem _ wt_533)) (hts _ (List.mem_cons_of_mem _ wt_55)) (hts _ (List.mem_cons_of_mem _ wt_534)) (Nat.le_of_ble_eq_true rfl) (Nat.le_of_ble_eq_true rfl) (Nat.le_of_ble_eq_true rfl) (Nat.le_of_ble_eq_true rfl) dX4_memory_80 ?_
                    refine n_tope (show (if 0 ≤ (nI (drk ((f 5) t) w 0 (k 5)) - nI (cu)) then (nI (drk ((f 5) t) w 0 (k 5)) - nI (cu)) else 0 - (nI (drk ((f 5) t) w 0 (k 5)) - nI (cu))) = nI (if cu ≤ drk (f 5 t) w 0 (k 5) then drk (f 5 t) w 0 (k 5) - cu else cu - drk (f 5 t) w 0 (k 5)) from absd (by omega) (by omega)) ?_
                    refine lv_istore (lv' := [(7, .int (nI (if cu ≤ drk (f 5 t) w 0 (k 5) then drk (f 5 t) w 0 (k 5) - cu else cu - drk (f 5 t) w 0 (k 5)))), (0, .ref (ad 0)), (1, .int (nI t)), (2, .int (nI cu)), (3, .int (nI y)), (4, .int (nI 1)), (5, .int (nI bf)), (6, .int (nI w))]) hx hb dX4_memory_83 hl (by decide) rfl (fun ls hl => ?_)
                    refine lv_iload hx hb dX4_memory_85 (lv_at hl 0 rfl) ?_
                    refine lv_iload_n hx hb dX4_memory_87 rfl (lv_at hl 4 rfl) ?_
                    refine n_icmp_gt (tgt := 108) hx hb dX4_memory_88 (by decide) (by split <;> omega) (by omega) (fun c_88 => ?_) (fun c_88 => ?_)
                    · refine lv_iinc (v := nI (w + 1)) (lv' := [(6, .int (nI (w + 1))), (7, .int (nI (if cu ≤ drk (f 5 t) w 0 (k 5) then drk (f 5 t) w 0 (k 5) - cu else cu - drk (f 5 t) w 0 (k 5)))), (0, .ref (ad 0)), (1, .int (nI t)), (2, .int (nI cu)), (3, .int (nI y)), (4, .int (nI 1)), (5, .int (nI bf))]) hx hb dX4_memory_108 hl (k := 7) rfl (nI_inc _ _) (by decide) rfl (fun ls hl => ?_)
                      refine lv_goto (tgt := 50) hx hb dX4_memory_111 (by decide) ?_
                      exact ih_4 (w + 1) (some (bt, bf)) (by omega) (ho) (by rw [hu, show 61 - w = (61 - (w + 1)) + 1 by omega, meS, if_neg (by split at c_88 <;> omega)]) (by omega) locs hS _ (lv_sub hl [2, 3, 4, 5, 6, 7, 0] rfl)
                    · refine lv_iload hx hb dX4_memory_91 (lv_at hl 5 rfl) ?_
                      refine lv_iconst (v := nI (1)) hx hb dX4_memory_93 (by decide) ?_
                      refine n_icmp_eq (tgt := 104) hx hb dX4_memory_94 (by decide) (by omega) (by omega) (fun c_94 => ?_) (fun c_94 => ?_)
                      · refine lv_iload hx hb dX4_memory_104 (lv_at hl 7 rfl) ?_
                        refine lv_istore (lv' := [(5, .int (nI w)), (7, .int (nI (if cu ≤ drk (f 5 t) w 0 (k 5) then drk (f 5 t) w 0 (k 5) - cu else cu - drk (f 5 t) w 0 (k 5)))), (0, .ref (ad 0)), (1, .int (nI t)), (2, .int (nI cu)), (3, .int (nI y)), (4, .int (nI 1)), (6, .int (nI w))]) hx hb dX4_memory_106 hl (by decide) rfl (fun ls hl => ?_)
                        refine lv_iinc (v := nI (w + 1)) (lv' := [(6, .int (nI (w + 1))), (5, .int (nI w)), (7, .int (nI (if cu ≤ drk (f 5 t) w 0 (k 5) then drk (f 5 t) w 0 (k 5) - cu else cu - drk (f 5 t) w 0 (k 5)))), (0, .ref (ad 0)), (1, .int (nI t)), (2, .int (nI cu)), (3, .int (nI y)), (4, .int (nI 1))]) hx hb dX4_memory_108 hl (k := 7) rfl (nI_inc _ _) (by decide) rfl (fun ls hl => ?_)
                        refine lv_goto (tgt := 50) hx hb dX4_memory_111 (by decide) ?_
                        exact ih_4 (w + 1) (some (bt, w)) (by omega) (⟨by omega, by omega⟩) (by rw [hu, show 61 - w = (61 - (w + 1)) + 1 by omega, meS, if_pos (by split at c_88 <;> omega)]) (by omega) locs hS _ (lv_sub hl [3, 4, 5, 6, 7, 1, 0] rfl)
                      · exact absurd c_94 (by decide)
            exact loop_3 (61 - 0 + 1) (0) (none) (by omega) (trivial) (rfl) (Nat.lt_succ_self _) locs hS _ (lv_sub hl [2, 3, 4, 5, 6, 1, 0] rfl)
        · have e_wh := ir_no c_38
          refine lv_iconst (v := (-1)) hx hb dX4_memory_41 (by decide) ?_
          exact ro_iret hx hb hr hlocks hS dX4_memory_42 (by simp only [spMem, e_t, e_cu, e_y, e_wh, Option.elim])
    · have e_cu := ir_no c_16
      refine lv_iconst (v := (-1)) hx hb dX4_memory_19 (by decide) ?_
      exact ro_iret hx hb hr hlocks hS dX4_memory_20 (by simp only [spMem, e_t, e_cu, Option.elim])

set_option maxHeartbeats 4000000 in
set_option maxRecDepth 100000 in
theorem c_X4_count (l : Launch) (D : va_G) (G : ClassId × ClassId × ClassId) (H0 : Heap) (v : Int32) (ad n : Nat → Nat) (f : Nat → Nat → Nat) (k : Nat → Nat) (b : Nat → Bool) (tr : Int64) (a : Int32) (h8 : n 8 ≤ 12) (h6 : n 6 ≤ 8) : Met l yX4_count (wM yX4_count cX4_count 2 (some .int)) (rmD 3) (rP D G [.ref (ad 0), .int (a)] [(ad 0, .inr (3, [.ref (ad 1), .ref (ad 10), .ref (ad 12), .ref (ad 14), .ref (ad 16), .ref (ad 21), .ref (ad 26), .int (bI (b 1)), .int (bI (b 2)), .long (tr)])), (ad 1, .inr (1, [.ref (ad 2), .ref (ad 4), .ref (ad 6), .int (nI (k 0)), .int (nI (k 1)), .ref (ad 8), .int (bI (b 0)), .int (nI (k 2)), .int (nI (k 3)), .int (nI (k 4)), .int (v)])), (ad 2, .inr (2, [.ref (ad 3), .int (nI (n 0))])), (ad 3, .inl (G.1, 200, .inl (nF (f 0)))), (ad 10, .inr (2, [.ref (ad 11), .int (nI (n 4))])), (ad 11, .inl (G.1, 5, .inl (nF (f 4)))), (ad 12, .inr (2, [.ref (ad 13), .int (nI (n 5))])), (ad 13, .inl (G.1, 6, .inl (nF (f 5)))), (ad 14, .inr (2, [.ref (ad 15), .int (nI (4 * n 6))])), (ad 15, .inl (G.1, 32, .inl (nF (f 6)))), (ad 16, .inr (0, [.ref (ad 17), .ref (ad 19), .int (nI (k 5))])), (ad 19, .inr (2, [.ref (ad 20), .int (nI (6 * n 8))])), (ad 20, .inl (G.1, 72, .inl (nF (f 8))))] H0) (rQi (spCount n k a) H0) 0 0 (rF H0) := by
  refine ro_start (Qc := fun H0 => (rQi (spCount n k a) H0)) (by decide) (Nat.le_of_ble_eq_true rfl) ?_
  intro p e s m args below meth c hx hb hr hts hown hlocks hml hP hK hA hH0 ls hl locs hS
  have hl : lv_has ls 2 [(0, .ref (ad 0)), (1, .int (a))] := hl
  refine lv_iload_n hx hb dX4_count_0 rfl (lv_at hl 1 rfl) ?_
  rcases hq : inR a (nI 0) (nI 5) with _ | _
  · have e_a := ir_no hq
    refine lv_tableOut (tgt := 85) hx hb dX4_count_1 (inR_out (by decide) (by decide) hq) (by decide) ?_
    refine lv_iconst (v := (-1)) hx hb dX4_count_85 (by decide) ?_
    exact ro_iret hx hb hr hlocks hS dX4_count_86 (by simp only [spCount, e_a, Option.elim])
  · obtain ⟨j, -, hj, rfl⟩ := inR_N (by decide) (by decide) hq
    rcases (show j = 0 ∨ j = 1 ∨ j = 2 ∨ j = 3 ∨ j = 4 ∨ j = 5 by omega) with rfl | rfl | rfl | rfl | rfl | rfl
    · refine lv_tableIn (off := 39) (tgt := 40) hx hb dX4_count_1 (by decide) (by decide) (by decide) (by decide) ?_
      refine lv_aload_n hx hb dX4_count_40 rfl (lv_at hl 0 rfl) ?_
      refine va_get (D := D) (ci := 3) (v := .ref (ad 10)) (C := RX4) (T := TX4) (N := 10) hx hb hts (iX4) hown hK hP 0 rfl rfl 1 (by decide) (hts _ (List.mem_cons_of_mem _ wt_157)) (fun _ h9 => h9) rfl dX4_count_41 ?_
      refine ro_i (roV_run (As := []) (rest := []) hx hb hml hown hts Tg_M (c_X3_size l D G _ (ad 10) (ad 11) 5 (n 4) (f 4)) lk_RX4_62 ⟨rfl, rfl, Nat.le_of_ble_eq_true rfl, Nat.le_of_ble_eq_true rfl⟩ hP hK [4, 5] rfl 4 2 rfl rfl rfl rfl hl rfl (Nat.le_of_ble_eq_true rfl) dX4_count_44 ⟨Nat.le_of_ble_eq_true rfl, Nat.le_of_ble_eq_true rfl⟩) hS hA (fun locs hS => ?_)
      exact ro_iret hx hb hr hlocks hS dX4_count_47 (rfl)
    · refine lv_tableIn (off := 47) (tgt := 48) hx hb dX4_count_1 (by decide) (by decide) (by decide) (by decide) ?_
      refine lv_aload_n hx hb dX4_count_48 rfl (lv_at hl 0 rfl) ?_
      refine va_get (D := D) (ci := 3) (v := .ref (ad 12)) (C := RX4) (T := TX4) (N := 10) hx hb hts (iX4) hown hK hP 0 rfl rfl 2 (by decide) (hts _ (List.mem_cons_of_mem _ wt_158)) (fun _ h9 => h9) rfl dX4_count_49 ?_
      refine ro_i (roV_run (As := []) (rest := []) hx hb hml hown hts Tg_M (c_X3_size l D G _ (ad 12) (ad 13) 6 (n 5) (f 5)) lk_RX4_62 ⟨rfl, rfl, Nat.le_of_ble_eq_true rfl, Nat.le_of_ble_eq_true rfl⟩ hP hK [6, 7] rfl 6 2 rfl rfl rfl rfl hl rfl (Nat.le_of_ble_eq_true rfl) dX4_count_52 ⟨Nat.le_of_ble_eq_true rfl, Nat.le_of_ble_eq_true rfl⟩) hS hA (fun locs hS => ?_)
      exact ro_iret hx hb hr hlocks hS dX4_count_55 (rfl)
    · refine lv_tableIn (off := 55) (tgt := 56) hx hb dX4_count_1 (by decide) (by decide) (by decide) (by decide) ?_
      refine lv_aload_n hx hb dX4_count_56 rfl (lv_at hl 0 rfl) ?_
      refine va_get (D := D) (ci := 3) (v := .ref (ad 16)) (C := RX4) (T := TX4) (N := 10) hx hb hts (iX4) hown hK hP 0 rfl rfl 4 (by decide) (hts _ (List.mem_cons_of_mem _ wt_160)) (fun _ h9 => h9) rfl dX4_count_57 ?_
      refine va_get (D := D) (ci := 0) (v := .int (nI (k 5))) (C := RX1) (T := TX1) (N := 3) hx hb hts (iX1) hown hK hP 10 rfl rfl 2 (by decide) (hts _ (List.mem_cons_of_mem _ wt_148)) (fun _ h9 => h9) rfl dX4_count_60 ?_
      exact ro_iret hx hb hr hlocks hS dX4_count_63 (rfl)
    · refine lv_tableIn (off := 63) (tgt := 64) hx hb dX4_count_1 (by decide) (by decide) (by decide) (by decide) ?_
      refine lv_aload_n hx hb dX4_count_64 rfl (lv_at hl 0 rfl) ?_
      refine ro_i (roV_run (As := []) (rest := []) hx hb hml hown hts Tg_M (c_X4_facts l D G _ ad n f k b tr  (by omega)) lk_RX4_126 ⟨rfl, rfl, Nat.le_of_ble_eq_true rfl, Nat.le_of_ble_eq_true rfl⟩ hP hK [0, 10, 11, 12] rfl 0 3 rfl rfl rfl rfl hl rfl (Nat.le_of_ble_eq_true rfl) dX4_count_65 ⟨Nat.le_of_ble_eq_true rfl, Nat.le_of_ble_eq_true rfl⟩) hS hA (fun locs hS => ?_)
      exact ro_iret hx hb hr hlocks hS dX4_count_68 (rfl)
    · refine lv_tableIn (off := 68) (tgt := 69) hx hb dX4_count_1 (by decide) (by decide) (by decide) (by decide) ?_
      refine lv_aload_n hx hb dX4_count_69 rfl (lv_at hl 0 rfl) ?_
      refine ro_i (roV_run (As := []) (rest := []) hx hb hml hown hts Tg_M (c_X4_toldTastings l D G _ ad n f k b tr  (by omega)) lk_RX4_172 ⟨rfl, rfl, Nat.le_of_ble_eq_true rfl, Nat.le_of_ble_eq_true rfl⟩ hP hK [0, 8, 9] rfl 0 3 rfl rfl rfl rfl hl rfl (Nat.le_of_ble_eq_true rfl) dX4_count_70 ⟨Nat.le_of_ble_eq_true rfl, Nat.le_of_ble_eq_true rfl⟩) hS hA (fun locs hS => ?_)
      exact ro_iret hx hb hr hlocks hS dX4_count_73 (rfl)
    · refine lv_tableIn (off := 73) (tgt := 74) hx hb dX4_count_1 (by decide) (by decide) (by decide) (by decide) ?_
      refine lv_aload_n hx hb dX4_count_74 rfl (lv_at hl 0 rfl) ?_
      refine va_get (D := D) (ci := 3) (v := .ref (ad 1)) (C := RX4) (T := TX4) (N := 10) hx hb hts (iX4) hown hK hP 0 rfl rfl 0 (by decide) (hts _ (List.mem_cons_of_mem _ wt_156)) (fun _ h9 => h9) rfl dX4_count_75 ?_
      refine va_get (D := D) (ci := 1) (v := .ref (ad 2)) (C := RX2) (T := TX2) (N := 11) hx hb hts (iX2) hown hK hP 1 rfl rfl 0 (by decide) (hts _ (List.mem_cons_of_mem _ wt_95)) (fun _ h9 => h9) rfl dX4_count_78 ?_
      refine ro_i (roV_run (As := []) (rest := []) hx hb hml hown hts Tg_M (c_X3_size l D G _ (ad 2) (ad 3) 200 (n 0) (f 0)) lk_RX4_62 ⟨rfl, rfl, Nat.le_of_ble_eq_true rfl, Nat.le_of_ble_eq_true rfl⟩ hP hK [2, 3] rfl 2 2 rfl rfl rfl rfl hl rfl (Nat.le_of_ble_eq_true rfl) dX4_count_81 ⟨Nat.le_of_ble_eq_true rfl, Nat.le_of_ble_eq_true rfl⟩) hS hA (fun locs hS => ?_)
      exact ro_iret hx hb hr hlocks hS dX4_count_84 (rfl)

set_option maxHeartbeats 4000000 in
set_option maxRecDepth 100000 in
theorem c_X4_trace (l : Launch) (D : va_G) (G : ClassId × ClassId × ClassId) (H0 : Heap) (ad n : Nat → Nat) (f : Nat → Nat → Nat) (k : Nat → Nat) (b : Nat → Bool) (tr : Int64)  : Met l yX4_trace (wM yX4_trace cX4_trace 1 (some .long)) (rmD 1) (rP D G [.ref (ad 0)] [(ad 0, .inr (3, [.ref (ad 1), .ref (ad 10), .ref (ad 12), .ref (ad 14), .ref (ad 16), .ref (ad 21), .ref (ad 26), .int (bI (b 1)), .int (bI (b 2)), .long (tr)]))] H0) (rQl (tr) H0) 0 0 (rF H0) := by
  refine ro_start (Qc := fun H0 => (rQl (tr) H0)) (by decide) (Nat.le_of_ble_eq_true rfl) ?_
  intro p e s m args below meth c hx hb hr hts hown hlocks hml hP hK hA hH0 ls hl locs hS
  have hl : lv_has ls 1 [(0, .ref (ad 0))] := hl
  refine lv_aload_n hx hb dX4_trace_0 rfl (lv_at hl 0 rfl) ?_
  refine va_get (D := D) (ci := 3) (v := .long (tr)) (C := RX4) (T := TX4) (N := 10) hx hb hts (iX4) hown hK hP 0 rfl rfl 9 (by decide) (hts _ (List.mem_cons_of_mem _ wt_165)) (fun _ h9 => h9) rfl dX4_trace_1 ?_
  exact ro_lret hx hb hr hlocks hS dX4_trace_4 (rfl)
