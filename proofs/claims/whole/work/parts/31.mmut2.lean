set_option maxHeartbeats 4000000 in
set_option maxRecDepth 100000 in
theorem c_X5_told (l : Launch) (D : va_G) (G : ClassId × ClassId × ClassId) (H0 : Heap) (am n : Nat → Nat) (f : Nat → Nat → Nat) (k : Nat → Nat) (g : Nat → Nat → Nat) (j : Nat → Nat) (tx : Nat → Int32) (fl : Int32) (hh : Bool) (kp : Nat → Bool) (tr : Int64) (a a2 a3 a4 : Int32) (h6 : n 6 ≤ 8) (hMT : ∀ x, x < 4 * n 6 → g 12 x = f 6 x) : Met l yX5_told (wM yX5_told cX5_told 5 (some .int)) (rmD 4) (wP D G [.ref (am 0), .int (a), .int (a2), .int (a3), .int (a4)] [(am 0, .inr (4, [.long (tr), .ref (am 1), .int (nI (j 0)), .ref (am 2), .ref (am 3), .ref (am 4), .ref (am 5), .ref (am 6), .ref (am 7), .ref (am 8), .ref (am 9), .int (nI (j 1)), .int (nI (j 2)), .int (nI (j 3)), .int (nI (j 4)), .int (fl), .int (bI (hh)), .ref (am 10), .ref (am 11), .ref (am 12), .int (nI (n 6))])), (am 12, .inl (G.1, 32, .inl (nF (g 12))))] H0) (wQi (S := (Nat → Nat) × Nat) D (fun r u => r = (spTold n f a a2 a3 a4).1 ∧ u.2 = (spTold n f a a2 a3 a4).2.1 ∧ ∀ x, x < 4 * u.2 → u.1 x = (spTold n f a a2 a3 a4).2.2 x) [(am 0, .inr (4, [.long (tr), .ref (am 1), .int (nI (j 0)), .ref (am 2), .ref (am 3), .ref (am 4), .ref (am 5), .ref (am 6), .ref (am 7), .ref (am 8), .ref (am 9), .int (nI (j 1)), .int (nI (j 2)), .int (nI (j 3)), .int (nI (j 4)), .int (fl), .int (bI (hh)), .ref (am 10), .ref (am 11), .ref (am 12), .int (nI (n 6))])), (am 12, .inl (G.1, 32, .inl (nF (g 12))))] (fun u => [(am 0, .inr (4, [.long (tr), .ref (am 1), .int (nI (j 0)), .ref (am 2), .ref (am 3), .ref (am 4), .ref (am 5), .ref (am 6), .ref (am 7), .ref (am 8), .ref (am 9), .int (nI (j 1)), .int (nI (j 2)), .int (nI (j 3)), .int (nI (j 4)), .int (fl), .int (bI (hh)), .ref (am 10), .ref (am 11), .ref (am 12), .int (nI (u.2))])), (am 12, .inl (G.1, 32, .inl (nF (u.1))))]) H0) 0 0 (va_A [(am 0, .inr (4, [.long (tr), .ref (am 1), .int (nI (j 0)), .ref (am 2), .ref (am 3), .ref (am 4), .ref (am 5), .ref (am 6), .ref (am 7), .ref (am 8), .ref (am 9), .int (nI (j 1)), .int (nI (j 2)), .int (nI (j 3)), .int (nI (j 4)), .int (fl), .int (bI (hh)), .ref (am 10), .ref (am 11), .ref (am 12), .int (nI (n 6))])), (am 12, .inl (G.1, 32, .inl (nF (g 12))))] H0.size) := by
  refine wr_start (Qc := fun H0 => (wQi (S := (Nat → Nat) × Nat) D (fun r u => r = (spTold n f a a2 a3 a4).1 ∧ u.2 = (spTold n f a a2 a3 a4).2.1 ∧ ∀ x, x < 4 * u.2 → u.1 x = (spTold n f a a2 a3 a4).2.2 x) [(am 0, .inr (4, [.long (tr), .ref (am 1), .int (nI (j 0)), .ref (am 2), .ref (am 3), .ref (am 4), .ref (am 5), .ref (am 6), .ref (am 7), .ref (am 8), .ref (am 9), .int (nI (j 1)), .int (nI (j 2)), .int (nI (j 3)), .int (nI (j 4)), .int (fl), .int (bI (hh)), .ref (am 10), .ref (am 11), .ref (am 12), .int (nI (n 6))])), (am 12, .inl (G.1, 32, .inl (nF (g 12))))] (fun u => [(am 0, .inr (4, [.long (tr), .ref (am 1), .int (nI (j 0)), .ref (am 2), .ref (am 3), .ref (am 4), .ref (am 5), .ref (am 6), .ref (am 7), .ref (am 8), .ref (am 9), .int (nI (j 1)), .int (nI (j 2)), .int (nI (j 3)), .int (nI (j 4)), .int (fl), .int (bI (hh)), .ref (am 10), .ref (am 11), .ref (am 12), .int (nI (u.2))])), (am 12, .inl (G.1, 32, .inl (nF (u.1))))]) H0)) (by decide) (Nat.le_of_ble_eq_true rfl) ?_
  intro p e s m args below meth c hx hb hr hts hown hlocks hml hK A hAe hA hH0 ls hl H locs hP hD hS
  have hl : lv_has ls 5 [(0, .ref (am 0)), (1, .int (a)), (2, .int (a2)), (3, .int (a3)), (4, .int (a4))] := hl
  refine lv_iload_n hx hb dX5_told_0 rfl (lv_at hl 1 rfl) ?_
  refine lv_iload_n hx hb dX5_told_1 rfl (lv_at hl 2 rfl) ?_
  refine lv_iload_n hx hb dX5_told_2 rfl (lv_at hl 3 rfl) ?_
  refine ro_i (roS_run (As := [.int (a), .int (a2), .int (a3)]) (rest := []) hx hb hml hown hts Tg_M (c_X5_isTasting l D G _ (a) (a2) (a3)) lk_RX5_154 ⟨rfl, rfl, Nat.le_of_ble_eq_true rfl, Nat.le_of_ble_eq_true rfl⟩ hP hK [] rfl rfl hl rfl (Nat.le_of_ble_eq_true rfl) dX5_told_3 ⟨Nat.le_of_ble_eq_true rfl, Nat.le_of_ble_eq_true rfl⟩) hS hA (fun locs hS => ?_)
  refine b_if_eq (tgt := 21) hx hb dX5_told_6 (by decide) (fun c_6 => ?_) (fun c_6 => ?_)
  · have e_T := irT_no c_6
    refine lv_iconst (v := (-1)) hx hb dX5_told_21 (by decide) ?_
    exact wr_iret ((g 12, n 6)) hx hb hr hlocks hAe hS dX5_told_22 (hP) (by simp only [spTold, e_T, Option.elim]; exact ⟨by trivial, by trivial, hMT⟩)
  · obtain ⟨x, y, z, hx9, hy9, hz9, rfl, rfl, rfl, e_T⟩ := irT_ok c_6
    refine lv_iload hx hb dX5_told_9 (lv_at hl 4 rfl) ?_
    refine lv_iconst (v := nI (0)) hx hb dX5_told_11 (by decide) ?_
    refine lv_sipush (v := nI (999)) hx hb dX5_told_12 (by decide) ?_
    refine ro_i (roS_run (As := [.int (a4), .int (nI 0), .int (nI 999)]) (rest := []) hx hb hml hown hts Tg_M (c_X5_in l D G _ (a4) (nI (0)) (nI (999))) lk_RX5_52 ⟨rfl, rfl, Nat.le_of_ble_eq_true rfl, Nat.le_of_ble_eq_true rfl⟩ hP hK [] rfl rfl hl rfl (Nat.le_of_ble_eq_true rfl) dX5_told_15 ⟨Nat.le_of_ble_eq_true rfl, Nat.le_of_ble_eq_true rfl⟩) hS hA (fun locs hS => ?_)
    refine b_if_ne (tgt := 23) hx hb dX5_told_18 (by decide) (fun c_18 => ?_) (fun c_18 => ?_)
    · obtain ⟨c9, g_c9, h_c9, rfl⟩ := inR_N (by decide) (by decide) c_18
      have e_c9 := ir_yes g_c9 h_c9 (by decide)
      refine lv_aload_n hx hb dX5_told_23 rfl (lv_at hl 0 rfl) ?_
      refine va_get (D := D) (ci := 4) (v := .int (nI (n 6))) (C := RX5) (T := TX5) (N := 21) hx hb hts (iX5) hown hK hP 0 rfl rfl 20 (by decide) (hts _ (List.mem_cons_of_mem _ wt_620)) (fun _ h9 => h9) rfl dX5_told_24 ?_
      refine lv_bipush (v := nI (8)) hx hb dX5_told_27 (by decide) ?_
      refine n_icmp_ne (tgt := 35) hx hb dX5_told_29 (by decide) (by omega) (by omega) (fun c_29 => ?_) (fun c_29 => ?_)
      · refine lv_aload_n hx hb dX5_told_35 rfl (lv_at hl 0 rfl) ?_
        refine va_get (D := D) (ci := 4) (v := .ref (am 12)) (C := RX5) (T := TX5) (N := 21) hx hb hts (iX5) hown hK hP 0 rfl rfl 19 (by decide) (hts _ (List.mem_cons_of_mem _ wt_619)) (fun _ h9 => h9) rfl dX5_told_36 ?_
        refine lv_iconst (v := nI (4)) hx hb dX5_told_39 (by decide) ?_
        refine lv_aload_n hx hb dX5_told_40 rfl (lv_at hl 0 rfl) ?_
        refine va_get (D := D) (ci := 4) (v := .int (nI (n 6))) (C := RX5) (T := TX5) (N := 21) hx hb hts (iX5) hown hK hP 0 rfl rfl 20 (by decide) (hts _ (List.mem_cons_of_mem _ wt_620)) (fun _ h9 => h9) rfl dX5_told_41 ?_
        refine n_imul hx hb dX5_told_44 ?_
        refine lv_iload_n hx hb dX5_told_45 rfl (lv_at hl 1 rfl) ?_
        refine n_iast hx hb hK hP hD hS 1 (f := g 12) rfl (by omega) dX5_told_46 (fun H locs hP hD hS => ?_)
        have hP : va_P D cls5 [(am 0, .inr (4, [.long (tr), .ref (am 1), .int (nI (j 0)), .ref (am 2), .ref (am 3), .ref (am 4), .ref (am 5), .ref (am 6), .ref (am 7), .ref (am 8), .ref (am 9), .int (nI (j 1)), .int (nI (j 2)), .int (nI (j 3)), .int (nI (j 4)), .int (fl), .int (bI (hh)), .ref (am 10), .ref (am 11), .ref (am 12), .int (nI (n 6))])), (am 12, .inl (G.1, 32, .inl (nF (va_up (g 12) (4 * (n 6)) x))))] H := hP
        have hD : va_D A [(am 0, .inr (4, [.long (tr), .ref (am 1), .int (nI (j 0)), .ref (am 2), .ref (am 3), .ref (am 4), .ref (am 5), .ref (am 6), .ref (am 7), .ref (am 8), .ref (am 9), .int (nI (j 1)), .int (nI (j 2)), .int (nI (j 3)), .int (nI (j 4)), .int (fl), .int (bI (hh)), .ref (am 10), .ref (am 11), .ref (am 12), .int (nI (n 6))])), (am 12, .inl (G.1, 32, .inl (nF (va_up (g 12) (4 * (n 6)) x))))] := hD
        refine lv_aload_n hx hb dX5_told_47 rfl (lv_at hl 0 rfl) ?_
        refine va_get (D := D) (ci := 4) (v := .ref (am 12)) (C := RX5) (T := TX5) (N := 21) hx hb hts (iX5) hown hK hP 0 rfl rfl 19 (by decide) (hts _ (List.mem_cons_of_mem _ wt_619)) (fun _ h9 => h9) rfl dX5_told_48 ?_
        refine lv_iconst (v := nI (4)) hx hb dX5_told_51 (by decide) ?_
        refine lv_aload_n hx hb dX5_told_52 rfl (lv_at hl 0 rfl) ?_
        refine va_get (D := D) (ci := 4) (v := .int (nI (n 6))) (C := RX5) (T := TX5) (N := 21) hx hb hts (iX5) hown hK hP 0 rfl rfl 20 (by decide) (hts _ (List.mem_cons_of_mem _ wt_620)) (fun _ h9 => h9) rfl dX5_told_53 ?_
        refine n_imul hx hb dX5_told_56 ?_
        refine lv_iconst (v := nI (1)) hx hb dX5_told_57 (by decide) ?_
        refine n_iadd hx hb dX5_told_58 ?_
        refine lv_iload_n hx hb dX5_told_59 rfl (lv_at hl 2 rfl) ?_
        refine n_iast hx hb hK hP hD hS 1 (f := va_up (g 12) (4 * (n 6)) x) rfl (by omega) dX5_told_60 (fun H locs hP hD hS => ?_)
        have hP : va_P D cls5 [(am 0, .inr (4, [.long (tr), .ref (am 1), .int (nI (j 0)), .ref (am 2), .ref (am 3), .ref (am 4), .ref (am 5), .ref (am 6), .ref (am 7), .ref (am 8), .ref (am 9), .int (nI (j 1)), .int (nI (j 2)), .int (nI (j 3)), .int (nI (j 4)), .int (fl), .int (bI (hh)), .ref (am 10), .ref (am 11), .ref (am 12), .int (nI (n 6))])), (am 12, .inl (G.1, 32, .inl (nF (va_up (va_up (g 12) (4 * (n 6)) x) ((4 * (n 6)) + 1) y))))] H := hP
        have hD : va_D A [(am 0, .inr (4, [.long (tr), .ref (am 1), .int (nI (j 0)), .ref (am 2), .ref (am 3), .ref (am 4), .ref (am 5), .ref (am 6), .ref (am 7), .ref (am 8), .ref (am 9), .int (nI (j 1)), .int (nI (j 2)), .int (nI (j 3)), .int (nI (j 4)), .int (fl), .int (bI (hh)), .ref (am 10), .ref (am 11), .ref (am 12), .int (nI (n 6))])), (am 12, .inl (G.1, 32, .inl (nF (va_up (va_up (g 12) (4 * (n 6)) x) ((4 * (n 6)) + 1) y))))] := hD
        refine lv_aload_n hx hb dX5_told_61 rfl (lv_at hl 0 rfl) ?_
        refine va_get (D := D) (ci := 4) (v := .ref (am 12)) (C := RX5) (T := TX5) (N := 21) hx hb hts (iX5) hown hK hP 0 rfl rfl 19 (by decide) (hts _ (List.mem_cons_of_mem _ wt_619)) (fun _ h9 => h9) rfl dX5_told_62 ?_
        refine lv_iconst (v := nI (4)) hx hb dX5_told_65 (by decide) ?_
        refine lv_aload_n hx hb dX5_told_66 rfl (lv_at hl 0 rfl) ?_
        refine va_get (D := D) (ci := 4) (v := .int (nI (n 6))) (C := RX5) (T := TX5) (N := 21) hx hb hts (iX5) hown hK hP 0 rfl rfl 20 (by decide) (hts _ (List.mem_cons_of_mem _ wt_620)) (fun _ h9 => h9) rfl dX5_told_67 ?_
        refine n_imul hx hb dX5_told_70 ?_
        refine lv_iconst (v := nI (2)) hx hb dX5_told_71 (by decide) ?_
        refine n_iadd hx hb dX5_told_72 ?_
        refine lv_iload_n hx hb dX5_told_73 rfl (lv_at hl 3 rfl) ?_
        refine n_iast hx hb hK hP hD hS 1 (f := va_up (va_up (g 12) (4 * (n 6)) x) ((4 * (n 6)) + 1) y) rfl (by omega) dX5_told_74 (fun H locs hP hD hS => ?_)
        have hP : va_P D cls5 [(am 0, .inr (4, [.long (tr), .ref (am 1), .int (nI (j 0)), .ref (am 2), .ref (am 3), .ref (am 4), .ref (am 5), .ref (am 6), .ref (am 7), .ref (am 8), .ref (am 9), .int (nI (j 1)), .int (nI (j 2)), .int (nI (j 3)), .int (nI (j 4)), .int (fl), .int (bI (hh)), .ref (am 10), .ref (am 11), .ref (am 12), .int (nI (n 6))])), (am 12, .inl (G.1, 32, .inl (nF (va_up (va_up (va_up (g 12) (4 * (n 6)) x) ((4 * (n 6)) + 1) y) ((4 * (n 6)) + 2) z))))] H := hP
        have hD : va_D A [(am 0, .inr (4, [.long (tr), .ref (am 1), .int (nI (j 0)), .ref (am 2), .ref (am 3), .ref (am 4), .ref (am 5), .ref (am 6), .ref (am 7), .ref (am 8), .ref (am 9), .int (nI (j 1)), .int (nI (j 2)), .int (nI (j 3)), .int (nI (j 4)), .int (fl), .int (bI (hh)), .ref (am 10), .ref (am 11), .ref (am 12), .int (nI (n 6))])), (am 12, .inl (G.1, 32, .inl (nF (va_up (va_up (va_up (g 12) (4 * (n 6)) x) ((4 * (n 6)) + 1) y) ((4 * (n 6)) + 2) z))))] := hD
        refine lv_aload_n hx hb dX5_told_75 rfl (lv_at hl 0 rfl) ?_
        refine va_get (D := D) (ci := 4) (v := .ref (am 12)) (C := RX5) (T := TX5) (N := 21) hx hb hts (iX5) hown hK hP 0 rfl rfl 19 (by decide) (hts _ (List.mem_cons_of_mem _ wt_619)) (fun _ h9 => h9) rfl dX5_told_76 ?_
        refine lv_iconst (v := nI (4)) hx hb dX5_told_79 (by decide) ?_
        refine lv_aload_n hx hb dX5_told_80 rfl (lv_at hl 0 rfl) ?_
        refine va_get (D := D) (ci := 4) (v := .int (nI (n 6))) (C := RX5) (T := TX5) (N := 21) hx hb hts (iX5) hown hK hP 0 rfl rfl 20 (by decide) (hts _ (List.mem_cons_of_mem _ wt_620)) (fun _ h9 => h9) rfl dX5_told_81 ?_
        refine n_imul hx hb dX5_told_84 ?_
        refine lv_iconst (v := nI (3)) hx hb dX5_told_85 (by decide) ?_
        refine n_iadd hx hb dX5_told_86 ?_
        refine lv_iload hx hb dX5_told_87 (lv_at hl 4 rfl) ?_
        refine n_iast hx hb hK hP hD hS 1 (f := va_up (va_up (va_up (g 12) (4 * (n 6)) x) ((4 * (n 6)) + 1) y) ((4 * (n 6)) + 2) z) rfl (by omega) dX5_told_89 (fun H locs hP hD hS => ?_)
        have hP : va_P D cls5 [(am 0, .inr (4, [.long (tr), .ref (am 1), .int (nI (j 0)), .ref (am 2), .ref (am 3), .ref (am 4), .ref (am 5), .ref (am 6), .ref (am 7), .ref (am 8), .ref (am 9), .int (nI (j 1)), .int (nI (j 2)), .int (nI (j 3)), .int (nI (j 4)), .int (fl), .int (bI (hh)), .ref (am 10), .ref (am 11), .ref (am 12), .int (nI (n 6))])), (am 12, .inl (G.1, 32, .inl (nF (va_up (va_up (va_up (va_up (g 12) (4 * (n 6)) x) ((4 * (n 6)) + 1) y) ((4 * (n 6)) + 2) z) ((4 * (n 6)) + 3) c9))))] H := hP
        have hD : va_D A [(am 0, .inr (4, [.long (tr), .ref (am 1), .int (nI (j 0)), .ref (am 2), .ref (am 3), .ref (am 4), .ref (am 5), .ref (am 6), .ref (am 7), .ref (am 8), .ref (am 9), .int (nI (j 1)), .int (nI (j 2)), .int (nI (j 3)), .int (nI (j 4)), .int (fl), .int (bI (hh)), .ref (am 10), .ref (am 11), .ref (am 12), .int (nI (n 6))])), (am 12, .inl (G.1, 32, .inl (nF (va_up (va_up (va_up (va_up (g 12) (4 * (n 6)) x) ((4 * (n 6)) + 1) y) ((4 * (n 6)) + 2) z) ((4 * (n 6)) + 3) c9))))] := hD
        refine lv_aload_n hx hb dX5_told_90 rfl (lv_at hl 0 rfl) ?_
        refine lv_dup hx hb dX5_told_91 rfl ?_
        refine va_get (D := D) (ci := 4) (v := .int (nI (n 6))) (C := RX5) (T := TX5) (N := 21) hx hb hts (iX5) hown hK hP 0 rfl rfl 20 (by decide) (hts _ (List.mem_cons_of_mem _ wt_620)) (fun _ h9 => h9) rfl dX5_told_92 ?_
        refine lv_iconst (v := nI (1)) hx hb dX5_told_95 (by decide) ?_
        refine n_iadd hx hb dX5_told_96 ?_
        refine va_put (D := D) (ci := 4) (v := .int (nI ((n 6) + 1))) (ty := .int) (C := RX5) (T := TX5) (N := 21) hx hb hts (iX5) tyX5 tyX5_ok nmX5 hown hK hP hD hS 0 rfl rfl 20 (by decide) (hts _ (List.mem_cons_of_mem _ wt_620)) (fun _ h9 => h9) rfl (by decide +kernel) (rfl) (rfl) (Nat.le_of_ble_eq_true rfl) dX5_told_97 (fun H locs hP hD hS => ?_)
        have hP : va_P D cls5 [(am 0, .inr (4, [.long (tr), .ref (am 1), .int (nI (j 0)), .ref (am 2), .ref (am 3), .ref (am 4), .ref (am 5), .ref (am 6), .ref (am 7), .ref (am 8), .ref (am 9), .int (nI (j 1)), .int (nI (j 2)), .int (nI (j 3)), .int (nI (j 4)), .int (fl), .int (bI (hh)), .ref (am 10), .ref (am 11), .ref (am 12), .int (nI ((n 6) + 1))])), (am 12, .inl (G.1, 32, .inl (nF (va_up (va_up (va_up (va_up (g 12) (4 * (n 6)) x) ((4 * (n 6)) + 1) y) ((4 * (n 6)) + 2) z) ((4 * (n 6)) + 3) c9))))] H := hP
        have hD : va_D A [(am 0, .inr (4, [.long (tr), .ref (am 1), .int (nI (j 0)), .ref (am 2), .ref (am 3), .ref (am 4), .ref (am 5), .ref (am 6), .ref (am 7), .ref (am 8), .ref (am 9), .int (nI (j 1)), .int (nI (j 2)), .int (nI (j 3)), .int (nI (j 4)), .int (fl), .int (bI (hh)), .ref (am 10), .ref (am 11), .ref (am 12), .int (nI ((n 6) + 1))])), (am 12, .inl (G.1, 32, .inl (nF (va_up (va_up (va_up (va_up (g 12) (4 * (n 6)) x) ((4 * (n 6)) + 1) y) ((4 * (n 6)) + 2) z) ((4 * (n 6)) + 3) c9))))] := hD
        refine lv_aload_n hx hb dX5_told_100 rfl (lv_at hl 0 rfl) ?_
        refine va_get (D := D) (ci := 4) (v := .int (nI ((n 6) + 1))) (C := RX5) (T := TX5) (N := 21) hx hb hts (iX5) hown hK hP 0 rfl rfl 20 (by decide) (hts _ (List.mem_cons_of_mem _ wt_620)) (fun _ h9 => h9) rfl dX5_told_101 ?_
        exact wr_iret ((va_up (va_up (va_up (va_up (g 12) (4 * (n 6)) x) ((4 * (n 6)) + 1) y) ((4 * (n 6)) + 2) z) ((4 * (n 6)) + 3) c9, (n 6) + 1)) hx hb hr hlocks hAe hS dX5_told_104 (hP) (by simp only [spTold, e_T, e_c9, Option.elim, if_pos (show n 6 < 8 by omega)]; exact ⟨by trivial, by trivial, adT_eq hMT⟩)
      · refine lv_bipush (v := (-3)) hx hb dX5_told_32 (by decide) ?_
        exact wr_iret ((g 12, n 6)) hx hb hr hlocks hAe hS dX5_told_34 (hP) (by simp only [spTold, e_T, e_c9, Option.elim, if_neg (show ¬ n 6 < 8 by omega)]; exact ⟨by trivial, by trivial, hMT⟩)
    · have e_c9 := ir_no c_18
      refine lv_iconst (v := (-1)) hx hb dX5_told_21 (by decide) ?_
      exact wr_iret ((g 12, n 6)) hx hb hr hlocks hAe hS dX5_told_22 (hP) (by simp only [spTold, e_T, e_c9, Option.elim]; exact ⟨by trivial, by trivial, hMT⟩)

set_option maxHeartbeats 4000000 in
set_option maxRecDepth 100000 in
theorem c_X5_forget (l : Launch) (D : va_G) (G : ClassId × ClassId × ClassId) (H0 : Heap) (am n : Nat → Nat) (f : Nat → Nat → Nat) (k : Nat → Nat) (g : Nat → Nat → Nat) (j : Nat → Nat) (tx : Nat → Int32) (fl : Int32) (hh : Bool) (kp : Nat → Bool) (tr : Int64)  : Met l yX5_forget (wM yX5_forget cX5_forget 2 (some .int)) (rmD 1) (wP D G [.ref (am 0)] [(am 0, .inr (4, [.long (tr), .ref (am 1), .int (nI (j 0)), .ref (am 2), .ref (am 3), .ref (am 4), .ref (am 5), .ref (am 6), .ref (am 7), .ref (am 8), .ref (am 9), .int (nI (j 1)), .int (nI (j 2)), .int (nI (j 3)), .int (nI (j 4)), .int (fl), .int (bI (hh)), .ref (am 10), .ref (am 11), .ref (am 12), .int (nI (n 6))]))] H0) (wQi (S := Unit) D (fun r _ => r = nI (n 6)) [(am 0, .inr (4, [.long (tr), .ref (am 1), .int (nI (j 0)), .ref (am 2), .ref (am 3), .ref (am 4), .ref (am 5), .ref (am 6), .ref (am 7), .ref (am 8), .ref (am 9), .int (nI (j 1)), .int (nI (j 2)), .int (nI (j 3)), .int (nI (j 4)), .int (fl), .int (bI (hh)), .ref (am 10), .ref (am 11), .ref (am 12), .int (nI (n 6))]))] (fun _ => [(am 0, .inr (4, [.long (tr), .ref (am 1), .int (nI (j 0)), .ref (am 2), .ref (am 3), .ref (am 4), .ref (am 5), .ref (am 6), .ref (am 7), .ref (am 8), .ref (am 9), .int (nI (j 1)), .int (nI (j 2)), .int (nI (j 3)), .int (nI (j 4)), .int (fl), .int (bI (hh)), .ref (am 10), .ref (am 11), .ref (am 12), .int (nI 0)]))]) H0) 0 0 (va_A [(am 0, .inr (4, [.long (tr), .ref (am 1), .int (nI (j 0)), .ref (am 2), .ref (am 3), .ref (am 4), .ref (am 5), .ref (am 6), .ref (am 7), .ref (am 8), .ref (am 9), .int (nI (j 1)), .int (nI (j 2)), .int (nI (j 3)), .int (nI (j 4)), .int (fl), .int (bI (hh)), .ref (am 10), .ref (am 11), .ref (am 12), .int (nI (n 6))]))] H0.size) := by
  refine wr_start (Qc := fun H0 => (wQi (S := Unit) D (fun r _ => r = nI (n 6)) [(am 0, .inr (4, [.long (tr), .ref (am 1), .int (nI (j 0)), .ref (am 2), .ref (am 3), .ref (am 4), .ref (am 5), .ref (am 6), .ref (am 7), .ref (am 8), .ref (am 9), .int (nI (j 1)), .int (nI (j 2)), .int (nI (j 3)), .int (nI (j 4)), .int (fl), .int (bI (hh)), .ref (am 10), .ref (am 11), .ref (am 12), .int (nI (n 6))]))] (fun _ => [(am 0, .inr (4, [.long (tr), .ref (am 1), .int (nI (j 0)), .ref (am 2), .ref (am 3), .ref (am 4), .ref (am 5), .ref (am 6), .ref (am 7), .ref (am 8), .ref (am 9), .int (nI (j 1)), .int (nI (j 2)), .int (nI (j 3)), .int (nI (j 4)), .int (fl), .int (bI (hh)), .ref (am 10), .ref (am 11), .ref (am 12), .int (nI 0)]))]) H0)) (by decide) (Nat.le_of_ble_eq_true rfl) ?_
  intro p e s m args below meth c hx hb hr hts hown hlocks hml hK A hAe hA hH0 ls hl H locs hP hD hS
  have hl : lv_has ls 2 [(0, .ref (am 0))] := hl
  refine lv_aload_n hx hb dX5_forget_0 rfl (lv_at hl 0 rfl) ?_
  refine va_get (D := D) (ci := 4) (v := .int (nI (n 6))) (C := RX5) (T := TX5) (N := 21) hx hb hts (iX5) hown hK hP 0 rfl rfl 20 (by decide) (hts _ (List.mem_cons_of_mem _ wt_620)) (fun _ h9 => h9) rfl dX5_forget_1 ?_
  refine lv_istore_n (lv' := [(1, .int (nI (n 6))), (0, .ref (am 0))]) hx hb dX5_forget_4 rfl hl (by decide) rfl (fun ls hl => ?_)
  refine lv_aload_n hx hb dX5_forget_5 rfl (lv_at hl 1 rfl) ?_
  refine lv_iconst (v := nI (0)) hx hb dX5_forget_6 (by decide) ?_
  refine va_put (D := D) (ci := 4) (v := .int (nI 0)) (ty := .int) (C := RX5) (T := TX5) (N := 21) hx hb hts (iX5) tyX5 tyX5_ok nmX5 hown hK hP hD hS 0 rfl rfl 20 (by decide) (hts _ (List.mem_cons_of_mem _ wt_620)) (fun _ h9 => h9) rfl (by decide +kernel) (rfl) (rfl) (Nat.le_of_ble_eq_true rfl) dX5_forget_7 (fun H locs hP hD hS => ?_)
  have hP : va_P D cls5 [(am 0, .inr (4, [.long (tr), .ref (am 1), .int (nI (j 0)), .ref (am 2), .ref (am 3), .ref (am 4), .ref (am 5), .ref (am 6), .ref (am 7), .ref (am 8), .ref (am 9), .int (nI (j 1)), .int (nI (j 2)), .int (nI (j 3)), .int (nI (j 4)), .int (fl), .int (bI (hh)), .ref (am 10), .ref (am 11), .ref (am 12), .int (nI 0)]))] H := hP
  have hD : va_D A [(am 0, .inr (4, [.long (tr), .ref (am 1), .int (nI (j 0)), .ref (am 2), .ref (am 3), .ref (am 4), .ref (am 5), .ref (am 6), .ref (am 7), .ref (am 8), .ref (am 9), .int (nI (j 1)), .int (nI (j 2)), .int (nI (j 3)), .int (nI (j 4)), .int (fl), .int (bI (hh)), .ref (am 10), .ref (am 11), .ref (am 12), .int (nI 0)]))] := hD
  refine lv_iload_n hx hb dX5_forget_10 rfl (lv_at hl 0 rfl) ?_
  exact wr_iret (()) hx hb hr hlocks hAe hS dX5_forget_11 (hP) (rfl)

set_option maxHeartbeats 4000000 in
set_option maxRecDepth 100000 in
theorem c_X5_clear (l : Launch) (D : va_G) (G : ClassId × ClassId × ClassId) (H0 : Heap) (am n : Nat → Nat) (f : Nat → Nat → Nat) (k : Nat → Nat) (g : Nat → Nat → Nat) (j : Nat → Nat) (tx : Nat → Int32) (fl : Int32) (hh : Bool) (kp : Nat → Bool) (tr : Int64)  : Met l yX5_clear (wM yX5_clear cX5_clear 2 (some .int)) (rmD 1) (wP D G [.ref (am 0)] [(am 0, .inr (4, [.long (tr), .ref (am 1), .int (nI (n 0)), .ref (am 2), .ref (am 3), .ref (am 4), .ref (am 5), .ref (am 6), .ref (am 7), .ref (am 8), .ref (am 9), .int (nI (j 1)), .int (nI (j 2)), .int (nI (j 3)), .int (nI (j 4)), .int (fl), .int (bI (hh)), .ref (am 10), .ref (am 11), .ref (am 12), .int (nI (j 5))]))] H0) (wQi (S := Unit) D (fun r _ => r = nI (n 0)) [(am 0, .inr (4, [.long (tr), .ref (am 1), .int (nI (n 0)), .ref (am 2), .ref (am 3), .ref (am 4), .ref (am 5), .ref (am 6), .ref (am 7), .ref (am 8), .ref (am 9), .int (nI (j 1)), .int (nI (j 2)), .int (nI (j 3)), .int (nI (j 4)), .int (fl), .int (bI (hh)), .ref (am 10), .ref (am 11), .ref (am 12), .int (nI (j 5))]))] (fun _ => [(am 0, .inr (4, [.long (tr), .ref (am 1), .int (nI 0), .ref (am 2), .ref (am 3), .ref (am 4), .ref (am 5), .ref (am 6), .ref (am 7), .ref (am 8), .ref (am 9), .int (nI (j 1)), .int (nI (j 2)), .int (nI (j 3)), .int (nI (j 4)), .int (fl), .int (bI (hh)), .ref (am 10), .ref (am 11), .ref (am 12), .int (nI (j 5))]))]) H0) 0 0 (va_A [(am 0, .inr (4, [.long (tr), .ref (am 1), .int (nI (n 0)), .ref (am 2), .ref (am 3), .ref (am 4), .ref (am 5), .ref (am 6), .ref (am 7), .ref (am 8), .ref (am 9), .int (nI (j 1)), .int (nI (j 2)), .int (nI (j 3)), .int (nI (j 4)), .int (fl), .int (bI (hh)), .ref (am 10), .ref (am 11), .ref (am 12), .int (nI (j 5))]))] H0.size) := by
  refine wr_start (Qc := fun H0 => (wQi (S := Unit) D (fun r _ => r = nI (n 0)) [(am 0, .inr (4, [.long (tr), .ref (am 1), .int (nI (n 0)), .ref (am 2), .ref (am 3), .ref (am 4), .ref (am 5), .ref (am 6), .ref (am 7), .ref (am 8), .ref (am 9), .int (nI (j 1)), .int (nI (j 2)), .int (nI (j 3)), .int (nI (j 4)), .int (fl), .int (bI (hh)), .ref (am 10), .ref (am 11), .ref (am 12), .int (nI (j 5))]))] (fun _ => [(am 0, .inr (4, [.long (tr), .ref (am 1), .int (nI 0), .ref (am 2), .ref (am 3), .ref (am 4), .ref (am 5), .ref (am 6), .ref (am 7), .ref (am 8), .ref (am 9), .int (nI (j 1)), .int (nI (j 2)), .int (nI (j 3)), .int (nI (j 4)), .int (fl), .int (bI (hh)), .ref (am 10), .ref (am 11), .ref (am 12), .int (nI (j 5))]))]) H0)) (by decide) (Nat.le_of_ble_eq_true rfl) ?_
  intro p e s m args below meth c hx hb hr hts hown hlocks hml hK A hAe hA hH0 ls hl H locs hP hD hS
  have hl : lv_has ls 2 [(0, .ref (am 0))] := hl
  refine lv_aload_n hx hb dX5_clear_0 rfl (lv_at hl 0 rfl) ?_
  refine va_get (D := D) (ci := 4) (v := .int (nI (n 0))) (C := RX5) (T := TX5) (N := 21) hx hb hts (iX5) hown hK hP 0 rfl rfl 2 (by decide) (hts _ (List.mem_cons_of_mem _ wt_602)) (fun _ h9 => h9) rfl dX5_clear_1 ?_
  refine lv_istore_n (lv' := [(1, .int (nI (n 0))), (0, .ref (am 0))]) hx hb dX5_clear_4 rfl hl (by decide) rfl (fun ls hl => ?_)
  refine lv_aload_n hx hb dX5_clear_5 rfl (lv_at hl 1 rfl) ?_
  refine lv_iconst (v := nI (0)) hx hb dX5_clear_6 (by decide) ?_
  refine va_put (D := D) (ci := 4) (v := .int (nI 0)) (ty := .int) (C := RX5) (T := TX5) (N := 21) hx hb hts (iX5) tyX5 tyX5_ok nmX5 hown hK hP hD hS 0 rfl rfl 2 (by decide) (hts _ (List.mem_cons_of_mem _ wt_602)) (fun _ h9 => h9) rfl (by decide +kernel) (rfl) (rfl) (Nat.le_of_ble_eq_true rfl) dX5_clear_7 (fun H locs hP hD hS => ?_)
  have hP : va_P D cls5 [(am 0, .inr (4, [.long (tr), .ref (am 1), .int (nI 0), .ref (am 2), .ref (am 3), .ref (am 4), .ref (am 5), .ref (am 6), .ref (am 7), .ref (am 8), .ref (am 9), .int (nI (j 1)), .int (nI (j 2)), .int (nI (j 3)), .int (nI (j 4)), .int (fl), .int (bI (hh)), .ref (am 10), .ref (am 11), .ref (am 12), .int (nI (j 5))]))] H := hP
  have hD : va_D A [(am 0, .inr (4, [.long (tr), .ref (am 1), .int (nI 0), .ref (am 2), .ref (am 3), .ref (am 4), .ref (am 5), .ref (am 6), .ref (am 7), .ref (am 8), .ref (am 9), .int (nI (j 1)), .int (nI (j 2)), .int (nI (j 3)), .int (nI (j 4)), .int (fl), .int (bI (hh)), .ref (am 10), .ref (am 11), .ref (am 12), .int (nI (j 5))]))] := hD
  refine lv_iload_n hx hb dX5_clear_10 rfl (lv_at hl 0 rfl) ?_
  exact wr_iret (()) hx hb hr hlocks hAe hS dX5_clear_11 (hP) (rfl)

set_option maxHeartbeats 4000000 in
set_option maxRecDepth 100000 in
theorem c_X5_type (l : Launch) (D : va_G) (G : ClassId × ClassId × ClassId) (H0 : Heap) (am n : Nat → Nat) (f : Nat → Nat → Nat) (k : Nat → Nat) (g : Nat → Nat → Nat) (j : Nat → Nat) (tx : Nat → Int32) (fl : Int32) (hh : Bool) (kp : Nat → Bool) (tr : Int64) (vv : Int64) (a : Int32) (h0 : n 0 ≤ 200) (htx : ∀ i, i < n 0 → tx i &&& 255 = nI (f 0 i)) : Met l yX5_type (wM yX5_type cX5_type 5 (some .int)) (rmD 2) (wP D G [.ref (am 0), .long (vv), .int (a)] [(am 0, .inr (4, [.long (tr), .ref (am 1), .int (nI (n 0)), .ref (am 2), .ref (am 3), .ref (am 4), .ref (am 5), .ref (am 6), .ref (am 7), .ref (am 8), .ref (am 9), .int (nI (j 1)), .int (nI (j 2)), .int (nI (j 3)), .int (nI (j 4)), .int (fl), .int (bI (hh)), .ref (am 10), .ref (am 11), .ref (am 12), .int (nI (j 5))])), (am 1, .inl (G.2.1, 200, .inl (tx)))] H0) (wQi (S := (Nat → Int32) × Nat) D (fun r u => r = (spType n f vv a).1 ∧ u.2 = (spType n f vv a).2.1 ∧ ∀ i, i < u.2 → u.1 i &&& 255 = nI ((spType n f vv a).2.2 i)) [(am 0, .inr (4, [.long (tr), .ref (am 1), .int (nI (n 0)), .ref (am 2), .ref (am 3), .ref (am 4), .ref (am 5), .ref (am 6), .ref (am 7), .ref (am 8), .ref (am 9), .int (nI (j 1)), .int (nI (j 2)), .int (nI (j 3)), .int (nI (j 4)), .int (fl), .int (bI (hh)), .ref (am 10), .ref (am 11), .ref (am 12), .int (nI (j 5))])), (am 1, .inl (G.2.1, 200, .inl (tx)))] (fun u => [(am 0, .inr (4, [.long (tr), .ref (am 1), .int (nI (u.2)), .ref (am 2), .ref (am 3), .ref (am 4), .ref (am 5), .ref (am 6), .ref (am 7), .ref (am 8), .ref (am 9), .int (nI (j 1)), .int (nI (j 2)), .int (nI (j 3)), .int (nI (j 4)), .int (fl), .int (bI (hh)), .ref (am 10), .ref (am 11), .ref (am 12), .int (nI (j 5))])), (am 1, .inl (G.2.1, 200, .inl (u.1)))]) H0) 0 0 (va_A [(am 0, .inr (4, [.long (tr), .ref (am 1), .int (nI (n 0)), .ref (am 2), .ref (am 3), .ref (am 4), .ref (am 5), .ref (am 6), .ref (am 7), .ref (am 8), .ref (am 9), .int (nI (j 1)), .int (nI (j 2)), .int (nI (j 3)), .int (nI (j 4)), .int (fl), .int (bI (hh)), .ref (am 10), .ref (am 11), .ref (am 12), .int (nI (j 5))])), (am 1, .inl (G.2.1, 200, .inl (tx)))] H0.size) := by
  refine wr_start (Qc := fun H0 => (wQi (S := (Nat → Int32) × Nat) D (fun r u => r = (spType n f vv a).1 ∧ u.2 = (spType n f vv a).2.1 ∧ ∀ i, i < u.2 → u.1 i &&& 255 = nI ((spType n f vv a).2.2 i)) [(am 0, .inr (4, [.long (tr), .ref (am 1), .int (nI (n 0)), .ref (am 2), .ref (am 3), .ref (am 4), .ref (am 5), .ref (am 6), .ref (am 7), .ref (am 8), .ref (am 9), .int (nI (j 1)), .int (nI (j 2)), .int (nI (j 3)), .int (nI (j 4)), .int (fl), .int (bI (hh)), .ref (am 10), .ref (am 11), .ref (am 12), .int (nI (j 5))])), (am 1, .inl (G.2.1, 200, .inl (tx)))] (fun u => [(am 0, .inr (4, [.long (tr), .ref (am 1), .int (nI (u.2)), .ref (am 2), .ref (am 3), .ref (am 4), .ref (am 5), .ref (am 6), .ref (am 7), .ref (am 8), .ref (am 9), .int (nI (j 1)), .int (nI (j 2)), .int (nI (j 3)), .int (nI (j 4)), .int (fl), .int (bI (hh)), .ref (am 10), .ref (am 11), .ref (am 12), .int (nI (j 5))])), (am 1, .inl (G.2.1, 200, .inl (u.1)))]) H0)) (by decide) (Nat.le_of_ble_eq_true rfl) ?_
  intro p e s m args below meth c hx hb hr hts hown hlocks hml hK A hAe hA hH0 ls hl H locs hP hD hS
  have hl : lv_has ls 5 [(0, .ref (am 0)), (1, .long (vv)), (3, .int (a))] := hl
  refine lv_iload_n hx hb dX5_type_0 rfl (lv_at hl 2 rfl) ?_
  refine lv_iconst (v := nI (1)) hx hb dX5_type_1 (by decide) ?_
  refine lv_bipush (v := nI (8)) hx hb dX5_type_2 (by decide) ?_
  refine ro_i (roS_run (As := [.int (a), .int (nI 1), .int (nI 8)]) (rest := []) hx hb hml hown hts Tg_M (c_X5_in l D G _ (a) (nI (1)) (nI (8))) lk_RX5_52 ⟨rfl, rfl, Nat.le_of_ble_eq_true rfl, Nat.le_of_ble_eq_true rfl⟩ hP hK [] rfl rfl hl rfl (Nat.le_of_ble_eq_true rfl) dX5_type_4 ⟨Nat.le_of_ble_eq_true rfl, Nat.le_of_ble_eq_true rfl⟩) hS hA (fun locs hS => ?_)
  refine b_if_ne (tgt := 12) hx hb dX5_type_7 (by decide) (fun c_7 => ?_) (fun c_7 => ?_)
  · obtain ⟨nn, g_nn, h_nn, rfl⟩ := inR_N (by decide) (by decide) c_7
    have e_nn := ir_yes g_nn h_nn (by decide)
    refine lv_aload_n hx hb dX5_type_12 rfl (lv_at hl 0 rfl) ?_
    refine va_get (D := D) (ci := 4) (v := .int (nI (n 0))) (C := RX5) (T := TX5) (N := 21) hx hb hts (iX5) hown hK hP 0 rfl rfl 2 (by decide) (hts _ (List.mem_cons_of_mem _ wt_602)) (fun _ h9 => h9) rfl dX5_type_13 ?_
    refine lv_iload_n hx hb dX5_type_16 rfl (lv_at hl 2 rfl) ?_
    refine n_iadd hx hb dX5_type_17 ?_
    refine lv_sipush (v := nI (200)) hx hb dX5_type_18 (by decide) ?_
    refine n_icmp_le (tgt := 27) hx hb dX5_type_21 (by decide) (by omega) (by omega) (fun c_21 => ?_) (fun c_21 => ?_)
    · refine lv_iload_n hx hb dX5_type_27 rfl (lv_at hl 2 rfl) ?_
      refine lv_iconst (v := nI (1)) hx hb dX5_type_28 (by decide) ?_
      refine n_isub hx hb dX5_type_29 (by omega) ?_
      refine lv_istore (lv' := [(4, .int (nI (nn - 1))), (0, .ref (am 0)), (1, .long (vv)), (3, .int (nI nn))]) hx hb dX5_type_30 hl (by decide) rfl (fun ls hl => ?_)
      rw [← idI_s, show nn - 1 + 1 = nn by omega] at hl
      have hP : va_P D cls5 [(am 0, .inr (4, [.long (tr), .ref (am 1), .int (nI (n 0 + (nn - nn))), .ref (am 2), .ref (am 3), .ref (am 4), .ref (am 5), .ref (am 6), .ref (am 7), .ref (am 8), .ref (am 9), .int (nI (j 1)), .int (nI (j 2)), .int (nI (j 3)), .int (nI (j 4)), .int (fl), .int (bI (hh)), .ref (am 10), .ref (am 11), .ref (am 12), .int (nI (j 5))])), (am 1, .inl (G.2.1, 200, .inl (tx)))] H := by rw [show n 0 + (nn - nn) = n 0 by omega]; exact hP
      have hD : va_D A [(am 0, .inr (4, [.long (tr), .ref (am 1), .int (nI (n 0 + (nn - nn))), .ref (am 2), .ref (am 3), .ref (am 4), .ref (am 5), .ref (am 6), .ref (am 7), .ref (am 8), .ref (am 9), .int (nI (j 1)), .int (nI (j 2)), .int (nI (j 3)), .int (nI (j 4)), .int (fl), .int (bI (hh)), .ref (am 10), .ref (am 11), .ref (am 12), .int (nI (j 5))])), (am 1, .inl (G.2.1, 200, .inl (tx)))] := by rw [show n 0 + (nn - nn) = n 0 by omega]; exact hD
      have loop_1 : ∀ (fuel : Nat) (m9 : Nat) (txx : Nat → Int32), (m9 ≤ nn) → (∀ i, i < n 0 + (nn - m9) → txx i &&& 255 = nI (tyC vv nn (f 0) (n 0) m9 i)) → (m9) < fuel → ∀ (H : Heap) (locs : List Loc), va_P D cls5 [(am 0, .inr (4, [.long (tr), .ref (am 1), .int (nI (n 0 + (nn - m9))), .ref (am 2), .ref (am 3), .ref (am 4), .ref (am 5), .ref (am 6), .ref (am 7), .ref (am 8), .ref (am 9), .int (nI (j 1)), .int (nI (j 2)), .int (nI (j 3)), .int (nI (j 4)), .int (fl), .int (bI (hh)), .ref (am 10), .ref (am 11), .ref (am 12), .int (nI (j 5))])), (am 1, .inl (G.2.1, 200, .inl (txx)))] H → va_D A [(am 0, .inr (4, [.long (tr), .ref (am 1), .int (nI (n 0 + (nn - m9))), .ref (am 2), .ref (am 3), .ref (am 4), .ref (am 5), .ref (am 6), .ref (am 7), .ref (am 8), .ref (am 9), .int (nI (j 1)), .int (nI (j 2)), .int (nI (j 3)), .int (nI (j 4)), .int (fl), .int (bI (hh)), .ref (am 10), .ref (am 11), .ref (am 12), .int (nI (j 5))])), (am 1, .inl (G.2.1, 200, .inl (txx)))] → va_S A s.heap H locs → ∀ (ls : Array Slot), lv_has ls 5 [(0, .ref (am 0)), (1, .long (vv)), (4, .int (idI m9))] → W p l e (rmD 2) s m args below meth c H locs 0 0 (MQ below (wQi (S := (Nat → Int32) × Nat) D (fun r u => r = (spType n f vv (nI (nn))).1 ∧ u.2 = (spType n f vv (nI (nn))).2.1 ∧ ∀ i, i < u.2 → u.1 i &&& 255 = nI ((spType n f vv (nI (nn))).2.2 i)) [(am 0, .inr (4, [.long (tr), .ref (am 1), .int (nI (n 0)), .ref (am 2), .ref (am 3), .ref (am 4), .ref (am 5), .ref (am 6), .ref (am 7), .ref (am 8), .ref (am 9), .int (nI (j 1)), .int (nI (j 2)), .int (nI (j 3)), .int (nI (j 4)), .int (fl), .int (bI (hh)), .ref (am 10), .ref (am 11), .ref (am 12), .int (nI (j 5))])), (am 1, .inl (G.2.1, 200, .inl (tx)))] (fun u => [(am 0, .inr (4, [.long (tr), .ref (am 1), .int (nI (u.2)), .ref (am 2), .ref (am 3), .ref (am 4), .ref (am 5), .ref (am 6), .ref (am 7), .ref (am 8), .ref (am 9), .int (nI (j 1)), .int (nI (j 2)), .int (nI (j 3)), .int (nI (j 4)), .int (fl), .int (bI (hh)), .ref (am 10), .ref (am 11), .ref (am 12), .int (nI (j 5))])), (am 1, .inl (G.2.1, 200, .inl (u.1)))]) s.heap) args s 0 0 A) (F0 m 32 ls []) := by
        intro fuel
        induction fuel with
        | zero => intro m9 txx hi1 htt hfu; exact absurd hfu (Nat.not_lt_zero _)
        | succ fuel ih_2 =>
          intro m9 txx hi1 htt hfu H locs hP hD hS ls hl
          rcases m9 with _ | m9
          · rw [idI_0] at hl
            refine lv_iload hx hb dX5_type_32 (lv_at hl 2 rfl) ?_
            refine lv_if_lt (tgt := 75) hx hb dX5_type_34 (by decide) (fun c_34 => ?_) (fun c_34 => ?_)
            · refine lv_aload_n hx hb dX5_type_75 rfl (lv_at hl 0 rfl) ?_
              refine va_get (D := D) (ci := 4) (v := .int (nI (n 0 + (nn - 0)))) (C := RX5) (T := TX5) (N := 21) hx hb hts (iX5) hown hK hP 0 rfl rfl 2 (by decide) (hts _ (List.mem_cons_of_mem _ wt_602)) (fun _ h9 => h9) rfl dX5_type_76 ?_
              exact wr_iret ((txx, n 0 + (nn - 0))) hx hb hr hlocks hAe hS dX5_type_79 (hP) (by simp only [spType, e_nn, Option.elim, if_pos c_21]; exact ⟨by rw [Nat.sub_zero], by trivial, htt⟩)
            · exact absurd (by decide) c_34
          · rw [idI_s] at hl
            refine lv_iload hx hb dX5_type_32 (lv_at hl 2 rfl) ?_
            refine n_if_lt (tgt := 75) hx hb dX5_type_34 (by decide) (by omega) (fun c_34 => ?_) (fun c_34 => ?_)
            · exact c_34.elim
            · refine lv_aload_n hx hb dX5_type_37 rfl (lv_at hl 0 rfl) ?_
              refine va_get (D := D) (ci := 4) (v := .ref (am 1)) (C := RX5) (T := TX5) (N := 21) hx hb hts (iX5) hown hK hP 0 rfl rfl 1 (by decide) (hts _ (List.mem_cons_of_mem _ wt_601)) (fun _ h9 => h9) rfl dX5_type_38 ?_
              refine lv_aload_n hx hb dX5_type_41 rfl (lv_at hl 0 rfl) ?_
              refine va_get (D := D) (ci := 4) (v := .int (nI (n 0 + (nn - (m9 + 1))))) (C := RX5) (T := TX5) (N := 21) hx hb hts (iX5) hown hK hP 0 rfl rfl 2 (by decide) (hts _ (List.mem_cons_of_mem _ wt_602)) (fun _ h9 => h9) rfl dX5_type_42 ?_
              refine lv_lload_n hx hb dX5_type_45 rfl (lv_at hl 1 rfl) ?_
              refine lv_bipush (v := nI (8)) hx hb dX5_type_46 (by decide) ?_
              refine lv_iload hx hb dX5_type_48 (lv_at hl 2 rfl) ?_
              refine n_imul hx hb dX5_type_50 ?_
              refine n_tope (show nI (8 * m9) = nI (8 * m9) from rfl) ?_
              refine lv_lshr hx hb dX5_type_51 rfl ?_
              refine lv_ldc2 (v := 255) hx hb hown (hts _ (List.mem_cons_of_mem _ wt_672)) dX5_type_52 ?_
              refine lv_land hx hb dX5_type_55 ?_
              refine lv_l2i hx hb dX5_type_56 rfl ?_
              refine n_tope (show (((vv >>> ((nI (8 * m9)).toInt64 &&& 63)) &&& 255).toInt32) = nI (byX vv m9) from byX_i vv m9) ?_
              refine lv_i2b hx hb dX5_type_57 rfl ?_
              refine n_bast hx hb hK hP hD hS 1 (f := txx) rfl (by omega) (by omega) dX5_type_58 (fun H locs hP hD hS => ?_)
              have hP : va_P D cls5 [(am 0, .inr (4, [.long (tr), .ref (am 1), .int (nI (n 0 + (nn - (m9 + 1)))), .ref (am 2), .ref (am 3), .ref (am 4), .ref (am 5), .ref (am 6), .ref (am 7), .ref (am 8), .ref (am 9), .int (nI (j 1)), .int (nI (j 2)), .int (nI (j 3)), .int (nI (j 4)), .int (fl), .int (bI (hh)), .ref (am 10), .ref (am 11), .ref (am 12), .int (nI (j 5))])), (am 1, .inl (G.2.1, 200, .inl (upd txx (n 0 + (nn - (m9 + 1))) (vp_nar .byte ((nI (byX vv m9)).toInt8.toInt32)))))] H := hP
              have hD : va_D A [(am 0, .inr (4, [.long (tr), .ref (am 1), .int (nI (n 0 + (nn - (m9 + 1)))), .ref (am 2), .ref (am 3), .ref (am 4), .ref (am 5), .ref (am 6), .ref (am 7), .ref (am 8), .ref (am 9), .int (nI (j 1)), .int (nI (j 2)), .int (nI (j 3)), .int (nI (j 4)), .int (fl), .int (bI (hh)), .ref (am 10), .ref (am 11), .ref (am 12), .int (nI (j 5))])), (am 1, .inl (G.2.1, 200, .inl (upd txx (n 0 + (nn - (m9 + 1))) (vp_nar .byte ((nI (byX vv m9)).toInt8.toInt32)))))] := hD
              refine lv_aload_n hx hb dX5_type_59 rfl (lv_at hl 0 rfl) ?_
              refine lv_dup hx hb dX5_type_60 rfl ?_
              refine va_get (D := D) (ci := 4) (v := .int (nI (n 0 + (nn - (m9 + 1))))) (C := RX5) (T := TX5) (N := 21) hx hb hts (iX5) hown hK hP 0 rfl rfl 2 (by decide) (hts _ (List.mem_cons_of_mem _ wt_602)) (fun _ h9 => h9) rfl dX5_type_61 ?_
              refine lv_iconst (v := nI (1)) hx hb dX5_type_64 (by decide) ?_
              refine n_iadd hx hb dX5_type_65 ?_
              refine va_put (D := D) (ci := 4) (v := .int (nI ((n 0 + (nn - (m9 + 1))) + 1))) (ty := .int) (C := RX5) (T := TX5) (N := 21) hx hb hts (iX5) tyX5 tyX5_ok nmX5 hown hK hP hD hS 0 rfl rfl 2 (by decide) (hts _ (List.mem_cons_of_mem _ wt_602)) (fun _ h9 => h9) rfl (by decide +kernel) (rfl) (rfl) (Nat.le_of_ble_eq_true rfl) dX5_type_66 (fun H locs hP hD hS => ?_)
              have hP : va_P D cls5 [(am 0, .inr (4, [.long (tr), .ref (am 1), .int (nI ((n 0 + (nn - (m9 + 1))) + 1)), .ref (am 2), .ref (am 3), .ref (am 4), .ref (am 5), .ref (am 6), .ref (am 7), .ref (am 8), .ref (am 9), .int (nI (j 1)), .int (nI (j 2)), .int (nI (j 3)), .int (nI (j 4)), .int (fl), .int (bI (hh)), .ref (am 10), .ref (am 11), .ref (am 12), .int (nI (j 5))])), (am 1, .inl (G.2.1, 200, .inl (upd txx (n 0 + (nn - (m9 + 1))) (vp_nar .byte ((nI (byX vv m9)).toInt8.toInt32)))))] H := hP
              have hD : va_D A [(am 0, .inr (4, [.long (tr), .ref (am 1), .int (nI ((n 0 + (nn - (m9 + 1))) + 1)), .ref (am 2), .ref (am 3), .ref (am 4), .ref (am 5), .ref (am 6), .ref (am 7), .ref (am 8), .ref (am 9), .int (nI (j 1)), .int (nI (j 2)), .int (nI (j 3)), .int (nI (j 4)), .int (fl), .int (bI (hh)), .ref (am 10), .ref (am 11), .ref (am 12), .int (nI (j 5))])), (am 1, .inl (G.2.1, 200, .inl (upd txx (n 0 + (nn - (m9 + 1))) (vp_nar .byte ((nI (byX vv m9)).toInt8.toInt32)))))] := hD
              rw [show n 0 + (nn - (m9 + 1)) + 1 = n 0 + (nn - m9) by omega] at hP hD
              have hP : va_P D cls5 [(am 0, .inr (4, [.long (tr), .ref (am 1), .int (nI (n 0 + (nn - m9))), .ref (am 2), .ref (am 3), .ref (am 4), .ref (am 5), .ref (am 6), .ref (am 7), .ref (am 8), .ref (am 9), .int (nI (j 1)), .int (nI (j 2)), .int (nI (j 3)), .int (nI (j 4)), .int (fl), .int (bI (hh)), .ref (am 10), .ref (am 11), .ref (am 12), .int (nI (j 5))])), (am 1, .inl (G.2.1, 200, .inl (upd txx (n 0 + (nn - (m9 + 1))) (vp_nar .byte ((nI (byX vv m9)).toInt8.toInt32)))))] H := hP
              have hD : va_D A [(am 0, .inr (4, [.long (tr), .ref (am 1), .int (nI (n 0 + (nn - m9))), .ref (am 2), .ref (am 3), .ref (am 4), .ref (am 5), .ref (am 6), .ref (am 7), .ref (am 8), .ref (am 9), .int (nI (j 1)), .int (nI (j 2)), .int (nI (j 3)), .int (nI (j 4)), .int (fl), .int (bI (hh)), .ref (am 10), .ref (am 11), .ref (am 12), .int (nI (j 5))])), (am 1, .inl (G.2.1, 200, .inl (upd txx (n 0 + (nn - (m9 + 1))) (vp_nar .byte ((nI (byX vv m9)).toInt8.toInt32)))))] := hD
              refine lv_iinc (v := (idI m9)) (lv' := [(4, .int (idI m9)), (0, .ref (am 0)), (1, .long (vv))]) hx hb dX5_type_69 hl (k := 2) rfl (idI_dec m9) (by decide) rfl (fun ls hl => ?_)
              refine lv_goto (tgt := 32) hx hb dX5_type_72 (by decide) ?_
              exact ih_2 (m9) (upd txx (n 0 + (nn - (m9 + 1))) (vp_nar .byte ((nI (byX vv m9)).toInt8.toInt32))) (by omega) (tyC_tx (by omega) htt) (by omega) H locs hP hD hS _ (lv_sub hl [1, 2, 0] rfl)
      exact loop_1 (nn + 1) (nn) (tx) (Nat.le_refl nn) (fun i hi => by rw [tyC_0]; exact htx i (by omega)) (Nat.lt_succ_self _) H locs hP hD hS _ (lv_sub hl [1, 2, 0] rfl)
    · refine lv_bipush (v := (-3)) hx hb dX5_type_24 (by decide) ?_
      exact wr_iret ((tx, n 0)) hx hb hr hlocks hAe hS dX5_type_26 (hP) (by simp only [spType, e_nn, Option.elim, if_neg (show ¬ n 0 + nn ≤ 200 by omega)]; exact ⟨by trivial, by trivial, htx⟩)
  · have e_nn := ir_no c_7
    refine lv_iconst (v := (-1)) hx hb dX5_type_10 (by decide) ?_
    exact wr_iret ((tx, n 0)) hx hb hr hlocks hAe hS dX5_type_11 (hP) (by simp only [spType, e_nn, Option.elim]; exact ⟨by trivial, by trivial, htx⟩)

set_option maxHeartbeats 4000000 in
set_option maxRecDepth 100000 in
theorem c_X5_mark (l : Launch) (D : va_G) (G : ClassId × ClassId × ClassId) (H0 : Heap) (am n : Nat → Nat) (f : Nat → Nat → Nat) (k : Nat → Nat) (g : Nat → Nat → Nat) (j : Nat → Nat) (tx : Nat → Int32) (fl : Int32) (hh : Bool) (kp : Nat → Bool) (tr : Int64) (q : Nat) (a a2 : Int32) (hI : XI n f k q) (hM : RQ n f k g) : Met l yX5_mark (wM yX5_mark cX5_mark 3 (some .int)) (rmD 3) (wP D G [.ref (am 0), .int (a), .int (a2)] [(am 0, .inr (4, [.long (tr), .ref (am 1), .int (nI (j 0)), .ref (am 2), .ref (am 3), .ref (am 4), .ref (am 5), .ref (am 6), .ref (am 7), .ref (am 8), .ref (am 9), .int (nI (j 1)), .int (nI (j 2)), .int (nI (j 3)), .int (nI (j 4)), .int (fl), .int (bI (hh)), .ref (am 10), .ref (am 11), .ref (am 12), .int (nI (j 5))])), (am 4, .inl (G.1, 2, .inl (nF (g 4)))), (am 5, .inl (G.1, 12, .inl (nF (g 5)))), (am 8, .inl (G.1, 12, .inl (nF (g 8)))), (am 10, .inl (G.1, 240, .inl (nF (g 10))))] H0) (wQi (S := Int64) D (fun r u => (r, u) = spMark n f k tr a a2) [(am 0, .inr (4, [.long (tr), .ref (am 1), .int (nI (j 0)), .ref (am 2), .ref (am 3), .ref (am 4), .ref (am 5), .ref (am 6), .ref (am 7), .ref (am 8), .ref (am 9), .int (nI (j 1)), .int (nI (j 2)), .int (nI (j 3)), .int (nI (j 4)), .int (fl), .int (bI (hh)), .ref (am 10), .ref (am 11), .ref (am 12), .int (nI (j 5))])), (am 4, .inl (G.1, 2, .inl (nF (g 4)))), (am 5, .inl (G.1, 12, .inl (nF (g 5)))), (am 8, .inl (G.1, 12, .inl (nF (g 8)))), (am 10, .inl (G.1, 240, .inl (nF (g 10))))] (fun u => [(am 0, .inr (4, [.long (u), .ref (am 1), .int (nI (j 0)), .ref (am 2), .ref (am 3), .ref (am 4), .ref (am 5), .ref (am 6), .ref (am 7), .ref (am 8), .ref (am 9), .int (nI (j 1)), .int (nI (j 2)), .int (nI (j 3)), .int (nI (j 4)), .int (fl), .int (bI (hh)), .ref (am 10), .ref (am 11), .ref (am 12), .int (nI (j 5))])), (am 4, .inl (G.1, 2, .inl (nF (g 4)))), (am 5, .inl (G.1, 12, .inl (nF (g 5)))), (am 8, .inl (G.1, 12, .inl (nF (g 8)))), (am 10, .inl (G.1, 240, .inl (nF (g 10))))]) H0) 0 0 (va_A [(am 0, .inr (4, [.long (tr), .ref (am 1), .int (nI (j 0)), .ref (am 2), .ref (am 3), .ref (am 4), .ref (am 5), .ref (am 6), .ref (am 7), .ref (am 8), .ref (am 9), .int (nI (j 1)), .int (nI (j 2)), .int (nI (j 3)), .int (nI (j 4)), .int (fl), .int (bI (hh)), .ref (am 10), .ref (am 11), .ref (am 12), .int (nI (j 5))])), (am 4, .inl (G.1, 2, .inl (nF (g 4)))), (am 5, .inl (G.1, 12, .inl (nF (g 5)))), (am 8, .inl (G.1, 12, .inl (nF (g 8)))), (am 10, .inl (G.1, 240, .inl (nF (g 10))))] H0.size) := by
  refine wr_start (Qc := fun H0 => (wQi (S := Int64) D (fun r u => (r, u) = spMark n f k tr a a2) [(am 0, .inr (4, [.long (tr), .ref (am 1), .int (nI (j 0)), .ref (am 2), .ref (am 3), .ref (am 4), .ref (am 5), .ref (am 6), .ref (am 7), .ref (am 8), .ref (am 9), .int (nI (j 1)), .int (nI (j 2)), .int (nI (j 3)), .int (nI (j 4)), .int (fl), .int (bI (hh)), .ref (am 10), .ref (am 11), .ref (am 12), .int (nI (j 5))])), (am 4, .inl (G.1, 2, .inl (nF (g 4)))), (am 5, .inl (G.1, 12, .inl (nF (g 5)))), (am 8, .inl (G.1, 12, .inl (nF (g 8)))), (am 10, .inl (G.1, 240, .inl (nF (g 10))))] (fun u => [(am 0, .inr (4, [.long (u), .ref (am 1), .int (nI (j 0)), .ref (am 2), .ref (am 3), .ref (am 4), .ref (am 5), .ref (am 6), .ref (am 7), .ref (am 8), .ref (am 9), .int (nI (j 1)), .int (nI (j 2)), .int (nI (j 3)), .int (nI (j 4)), .int (fl), .int (bI (hh)), .ref (am 10), .ref (am 11), .ref (am 12), .int (nI (j 5))])), (am 4, .inl (G.1, 2, .inl (nF (g 4)))), (am 5, .inl (G.1, 12, .inl (nF (g 5)))), (am 8, .inl (G.1, 12, .inl (nF (g 8)))), (am 10, .inl (G.1, 240, .inl (nF (g 10))))]) H0)) (by decide) (Nat.le_of_ble_eq_true rfl) ?_
  intro p e s m args below meth c hx hb hr hts hown hlocks hml hK A hAe hA hH0 ls hl H locs hP hD hS
  have hl : lv_has ls 3 [(0, .ref (am 0)), (1, .int (a)), (2, .int (a2))] := hl
  have hI0 := hI
  have hM0 := hM
  obtain ⟨i4, i5, i6, iq, iw, il, i7, i8, ih9, ik, iF⟩ := hI
  obtain ⟨m2, m3, m4, m5, m0, m6, m7, m8⟩ := hM
  have hN0 : reM (n 5) (g 10) (g 10) (f 7) (n 8) (f 8) (k 5) := ⟨hM0.2.2.2.2, fun _ _ => rfl⟩
  refine lv_iload_n hx hb dX5_mark_0 rfl (lv_at hl 1 rfl) ?_
  refine lv_iconst (v := nI (0)) hx hb dX5_mark_1 (by decide) ?_
  refine lv_iconst (v := nI (5)) hx hb dX5_mark_2 (by decide) ?_
  refine ro_i (roS_run (As := [.int (a), .int (nI 0), .int (nI 5)]) (rest := []) hx hb hml hown hts Tg_M (c_X5_in l D G _ (a) (nI (0)) (nI (5))) lk_RX5_52 ⟨rfl, rfl, Nat.le_of_ble_eq_true rfl, Nat.le_of_ble_eq_true rfl⟩ hP hK [] rfl rfl hl rfl (Nat.le_of_ble_eq_true rfl) dX5_mark_3 ⟨Nat.le_of_ble_eq_true rfl, Nat.le_of_ble_eq_true rfl⟩) hS hA (fun locs hS => ?_)
  refine b_if_eq (tgt := 17) hx hb dX5_mark_6 (by decide) (fun c_6 => ?_) (fun c_6 => ?_)
  · have e_i := ir_no c_6
    refine lv_ldc (v := (-1000000)) hx hb hown (hts _ (List.mem_cons_of_mem _ wt_860)) dX5_mark_17 ?_
    exact wr_iret (tr) hx hb hr hlocks hAe hS dX5_mark_19 (hP) (by unfold spMark; rw [e_i]; cases ix a2 (n 5) <;> rfl)
  · obtain ⟨i, g_i, h_i, rfl⟩ := inR_N (by decide) (by decide) c_6
    have e_i := ir_yes g_i h_i (by decide)
    refine lv_aload_n hx hb dX5_mark_9 rfl (lv_at hl 0 rfl) ?_
    refine lv_iload_n hx hb dX5_mark_10 rfl (lv_at hl 2 rfl) ?_
    refine ro_i (roV_run (As := [.int (a2)]) (rest := []) hx hb hml hown hts Tg_M (c_X5_isTaster l D G _ am n f k g j tx fl hh kp tr q (a2) hI0 hM0) lk_RX5_109 ⟨rfl, rfl, Nat.le_of_ble_eq_true rfl, Nat.le_of_ble_eq_true rfl⟩ hP hK [0, 1] rfl 0 4 rfl rfl rfl rfl hl rfl (Nat.le_of_ble_eq_true rfl) dX5_mark_11 ⟨Nat.le_of_ble_eq_true rfl, Nat.le_of_ble_eq_true rfl⟩) hS hA (fun locs hS => ?_)
    refine b_if_ne (tgt := 20) hx hb dX5_mark_14 (by decide) (fun c_14 => ?_) (fun c_14 => ?_)
    · obtain ⟨t, h_t, rfl⟩ := hasB_N (by omega) c_14
      have e_t := ix_yes h_t (show n 5 < 2 ^ 31 by omega)
      refine lv_iload_n hx hb dX5_mark_20 rfl (lv_at hl 1 rfl) ?_
      have p0 := lP0 (il t h_t)
      have p3 := lP3 (f 5 t)
      have p4 := ik t h_t
      rcases (show i = 0 ∨ i = 1 ∨ i = 2 ∨ i = 3 ∨ i = 4 ∨ i = 5 by omega) with rfl | rfl | rfl | rfl | rfl | rfl
      · refine lv_tableIn (off := 35) (tgt := 56) hx hb dX5_mark_21 (by decide) (by decide) (by decide) (by decide) ?_
        refine lv_aload_n hx hb dX5_mark_56 rfl (lv_at hl 0 rfl) ?_
        refine lv_dup hx hb dX5_mark_57 rfl ?_
        refine va_get (D := D) (ci := 4) (v := .long (tr)) (C := RX5) (T := TX5) (N := 21) hx hb hts (iX5) hown hK hP 0 rfl rfl 0 (by decide) (hts _ (List.mem_cons_of_mem _ wt_600)) (fun _ h9 => h9) rfl dX5_mark_58 ?_
        refine lv_lconst (v := 1) hx hb dX5_mark_61 rfl ?_
        refine lv_ladd hx hb dX5_mark_62 ?_
        refine va_put (D := D) (ci := 4) (v := .long (tr + 1)) (ty := .long) (C := RX5) (T := TX5) (N := 21) hx hb hts (iX5) tyX5 tyX5_ok nmX5 hown hK hP hD hS 0 rfl rfl 0 (by decide) (hts _ (List.mem_cons_of_mem _ wt_600)) (fun _ h9 => h9) rfl (by decide +kernel) (rfl) (rfl) (Nat.le_of_ble_eq_true rfl) dX5_mark_63 (fun H locs hP hD hS => ?_)
        have hP : va_P D cls5 [(am 0, .inr (4, [.long (tr + 1), .ref (am 1), .int (nI (j 0)), .ref (am 2), .ref (am 3), .ref (am 4), .ref (am 5), .ref (am 6), .ref (am 7), .ref (am 8), .ref (am 9), .int (nI (j 1)), .int (nI (j 2)), .int (nI (j 3)), .int (nI (j 4)), .int (fl), .int (bI (hh)), .ref (am 10), .ref (am 11), .ref (am 12), .int (nI (j 5))])), (am 4, .inl (G.1, 2, .inl (nF (g 4)))), (am 5, .inl (G.1, 12, .inl (nF (g 5)))), (am 8, .inl (G.1, 12, .inl (nF (g 8)))), (am 10, .inl (G.1, 240, .inl (nF (g 10))))] H := hP
        have hD : va_D A [(am 0, .inr (4, [.long (tr + 1), .ref (am 1), .int (nI (j 0)), .ref (am 2), .ref (am 3), .ref (am 4), .ref (am 5), .ref (am 6), .ref (am 7), .ref (am 8), .ref (am 9), .int (nI (j 1)), .int (nI (j 2)), .int (nI (j 3)), .int (nI (j 4)), .int (fl), .int (bI (hh)), .ref (am 10), .ref (am 11), .ref (am 12), .int (nI (j 5))])), (am 4, .inl (G.1, 2, .inl (nF (g 4)))), (am 5, .inl (G.1, 12, .inl (nF (g 5)))), (am 8, .inl (G.1, 12, .inl (nF (g 8)))), (am 10, .inl (G.1, 240, .inl (nF (g 10))))] := hD
        refine lv_aload_n hx hb dX5_mark_66 rfl (lv_at hl 0 rfl) ?_
        refine va_get (D := D) (ci := 4) (v := .ref (am 5)) (C := RX5) (T := TX5) (N := 21) hx hb hts (iX5) hown hK hP 0 rfl rfl 6 (by decide) (hts _ (List.mem_cons_of_mem _ wt_606)) (fun _ h9 => h9) rfl dX5_mark_67 ?_
        refine lv_iload_n hx hb dX5_mark_70 rfl (lv_at hl 2 rfl) ?_
        refine n_iald hx hb hK hP 2 (f := g 5) rfl (by omega) dX5_mark_71 ?_
        refine n_tope (show nI (g 5 t) = nI (lP (f 5 t) 0) from congrArg nI ((m5 t (by omega)).1)) ?_
        exact wr_iret (tr + 1) hx hb hr hlocks hAe hS dX5_mark_72 (hP) (by simp only [spMark, e_t, show ir (nI 0) 0 5 = some 0 from rfl, Option.elim]; rfl)
      · refine lv_tableIn (off := 52) (tgt := 73) hx hb dX5_mark_21 (by decide) (by decide) (by decide) (by decide) ?_
        refine lv_aload_n hx hb dX5_mark_73 rfl (lv_at hl 0 rfl) ?_
        refine lv_dup hx hb dX5_mark_74 rfl ?_
        refine va_get (D := D) (ci := 4) (v := .long (tr)) (C := RX5) (T := TX5) (N := 21) hx hb hts (iX5) hown hK hP 0 rfl rfl 0 (by decide) (hts _ (List.mem_cons_of_mem _ wt_600)) (fun _ h9 => h9) rfl dX5_mark_75 ?_
        refine lv_ldc2 (v := 11) hx hb hown (hts _ (List.mem_cons_of_mem _ wt_861)) dX5_mark_78 ?_
        refine lv_ladd hx hb dX5_mark_81 ?_
        refine va_put (D := D) (ci := 4) (v := .long (tr + 11)) (ty := .long) (C := RX5) (T := TX5) (N := 21) hx hb hts (iX5) tyX5 tyX5_ok nmX5 hown hK hP hD hS 0 rfl rfl 0 (by decide) (hts _ (List.mem_cons_of_mem _ wt_600)) (fun _ h9 => h9) rfl (by decide +kernel) (rfl) (rfl) (Nat.le_of_ble_eq_true rfl) dX5_mark_82 (fun H locs hP hD hS => ?_)
        have hP : va_P D cls5 [(am 0, .inr (4, [.long (tr + 11), .ref (am 1), .int (nI (j 0)), .ref (am 2), .ref (am 3), .ref (am 4), .ref (am 5), .ref (am 6), .ref (am 7), .ref (am 8), .ref (am 9), .int (nI (j 1)), .int (nI (j 2)), .int (nI (j 3)), .int (nI (j 4)), .int (fl), .int (bI (hh)), .ref (am 10), .ref (am 11), .ref (am 12), .int (nI (j 5))])), (am 4, .inl (G.1, 2, .inl (nF (g 4)))), (am 5, .inl (G.1, 12, .inl (nF (g 5)))), (am 8, .inl (G.1, 12, .inl (nF (g 8)))), (am 10, .inl (G.1, 240, .inl (nF (g 10))))] H := hP
        have hD : va_D A [(am 0, .inr (4, [.long (tr + 11), .ref (am 1), .int (nI (j 0)), .ref (am 2), .ref (am 3), .ref (am 4), .ref (am 5), .ref (am 6), .ref (am 7), .ref (am 8), .ref (am 9), .int (nI (j 1)), .int (nI (j 2)), .int (nI (j 3)), .int (nI (j 4)), .int (fl), .int (bI (hh)), .ref (am 10), .ref (am 11), .ref (am 12), .int (nI (j 5))])), (am 4, .inl (G.1, 2, .inl (nF (g 4)))), (am 5, .inl (G.1, 12, .inl (nF (g 5)))), (am 8, .inl (G.1, 12, .inl (nF (g 8)))), (am 10, .inl (G.1, 240, .inl (nF (g 10))))] := hD
        refine lv_aload_n hx hb dX5_mark_85 rfl (lv_at hl 0 rfl) ?_
        refine va_get (D := D) (ci := 4) (v := .ref (am 5)) (C := RX5) (T := TX5) (N := 21) hx hb hts (iX5) hown hK hP 0 rfl rfl 6 (by decide) (hts _ (List.mem_cons_of_mem _ wt_606)) (fun _ h9 => h9) rfl dX5_mark_86 ?_
        refine lv_iload_n hx hb dX5_mark_89 rfl (lv_at hl 2 rfl) ?_
        refine n_iald hx hb hK hP 2 (f := g 5) rfl (by omega) dX5_mark_90 ?_
        refine n_tope (show nI (g 5 t) = nI (lP (f 5 t) 0) from congrArg nI ((m5 t (by omega)).1)) ?_
        refine lv_aload_n hx hb dX5_mark_91 rfl (lv_at hl 0 rfl) ?_
        refine va_get (D := D) (ci := 4) (v := .ref (am 10)) (C := RX5) (T := TX5) (N := 21) hx hb hts (iX5) hown hK hP 0 rfl rfl 17 (by decide) (hts _ (List.mem_cons_of_mem _ wt_617)) (fun _ h9 => h9) rfl dX5_mark_92 ?_
        refine lv_iload_n hx hb dX5_mark_95 rfl (lv_at hl 2 rfl) ?_
        refine n_iald hx hb hK hP 4 (f := g 10) rfl (by omega) dX5_mark_96 ?_
        refine n_tope (show nI (g 10 t) = nI (f 7 t) from congrArg nI ((m0 t (by omega)).trans (if_pos (by omega)))) ?_
        refine n_iadd hx hb dX5_mark_97 ?_
        exact wr_iret (tr + 11) hx hb hr hlocks hAe hS dX5_mark_98 (hP) (by simp only [spMark, e_t, show ir (nI 1) 0 5 = some 1 from rfl, Option.elim]; rfl)
      · refine lv_tableIn (off := 78) (tgt := 99) hx hb dX5_mark_21 (by decide) (by decide) (by decide) (by decide) ?_
        refine lv_aload_n hx hb dX5_mark_99 rfl (lv_at hl 0 rfl) ?_
        refine lv_dup hx hb dX5_mark_100 rfl ?_
        refine va_get (D := D) (ci := 4) (v := .long (tr)) (C := RX5) (T := TX5) (N := 21) hx hb hts (iX5) hown hK hP 0 rfl rfl 0 (by decide) (hts _ (List.mem_cons_of_mem _ wt_600)) (fun _ h9 => h9) rfl dX5_mark_101 ?_
        refine lv_ldc2 (v := 101) hx hb hown (hts _ (List.mem_cons_of_mem _ wt_862)) dX5_mark_104 ?_
        refine lv_ladd hx hb dX5_mark_107 ?_
        refine va_put (D := D) (ci := 4) (v := .long (tr + 101)) (ty := .long) (C := RX5) (T := TX5) (N := 21) hx hb hts (iX5) tyX5 tyX5_ok nmX5 hown hK hP hD hS 0 rfl rfl 0 (by decide) (hts _ (List.mem_cons_of_mem _ wt_600)) (fun _ h9 => h9) rfl (by decide +kernel) (rfl) (rfl) (Nat.le_of_ble_eq_true rfl) dX5_mark_108 (fun H locs hP hD hS => ?_)
        have hP : va_P D cls5 [(am 0, .inr (4, [.long (tr + 101), .ref (am 1), .int (nI (j 0)), .ref (am 2), .ref (am 3), .ref (am 4), .ref (am 5), .ref (am 6), .ref (am 7), .ref (am 8), .ref (am 9), .int (nI (j 1)), .int (nI (j 2)), .int (nI (j 3)), .int (nI (j 4)), .int (fl), .int (bI (hh)), .ref (am 10), .ref (am 11), .ref (am 12), .int (nI (j 5))])), (am 4, .inl (G.1, 2, .inl (nF (g 4)))), (am 5, .inl (G.1, 12, .inl (nF (g 5)))), (am 8, .inl (G.1, 12, .inl (nF (g 8)))), (am 10, .inl (G.1, 240, .inl (nF (g 10))))] H := hP
        have hD : va_D A [(am 0, .inr (4, [.long (tr + 101), .ref (am 1), .int (nI (j 0)), .ref (am 2), .ref (am 3), .ref (am 4), .ref (am 5), .ref (am 6), .ref (am 7), .ref (am 8), .ref (am 9), .int (nI (j 1)), .int (nI (j 2)), .int (nI (j 3)), .int (nI (j 4)), .int (fl), .int (bI (hh)), .ref (am 10), .ref (am 11), .ref (am 12), .int (nI (j 5))])), (am 4, .inl (G.1, 2, .inl (nF (g 4)))), (am 5, .inl (G.1, 12, .inl (nF (g 5)))), (am 8, .inl (G.1, 12, .inl (nF (g 8)))), (am 10, .inl (G.1, 240, .inl (nF (g 10))))] := hD
        refine lv_aload_n hx hb dX5_mark_111 rfl (lv_at hl 0 rfl) ?_
        refine va_get (D := D) (ci := 4) (v := .ref (am 5)) (C := RX5) (T := TX5) (N := 21) hx hb hts (iX5) hown hK hP 0 rfl rfl 6 (by decide) (hts _ (List.mem_cons_of_mem _ wt_606)) (fun _ h9 => h9) rfl dX5_mark_112 ?_
        refine lv_iload_n hx hb dX5_mark_115 rfl (lv_at hl 2 rfl) ?_
        refine n_iald hx hb hK hP 2 (f := g 5) rfl (by omega) dX5_mark_116 ?_
        refine n_tope (show nI (g 5 t) = nI (lP (f 5 t) 0) from congrArg nI ((m5 t (by omega)).1)) ?_
        refine lv_aload_n hx hb dX5_mark_117 rfl (lv_at hl 0 rfl) ?_
        refine va_get (D := D) (ci := 4) (v := .ref (am 8)) (C := RX5) (T := TX5) (N := 21) hx hb hts (iX5) hown hK hP 0 rfl rfl 9 (by decide) (hts _ (List.mem_cons_of_mem _ wt_609)) (fun _ h9 => h9) rfl dX5_mark_118 ?_
        refine lv_iload_n hx hb dX5_mark_121 rfl (lv_at hl 2 rfl) ?_
        refine n_iald hx hb hK hP 3 (f := g 8) rfl (by omega) dX5_mark_122 ?_
        refine n_tope (show nI (g 8 t) = nI (lP (f 5 t) 3) from congrArg nI ((m5 t (by omega)).2.2.2)) ?_
        refine lv_isub hx hb dX5_mark_123 ?_
        exact wr_iret (tr + 101) hx hb hr hlocks hAe hS dX5_mark_124 (hP) (by simp only [spMark, e_t, show ir (nI 2) 0 5 = some 2 from rfl, Option.elim]; rfl)
      · refine lv_tableIn (off := 104) (tgt := 125) hx hb dX5_mark_21 (by decide) (by decide) (by decide) (by decide) ?_
        refine lv_aload_n hx hb dX5_mark_125 rfl (lv_at hl 0 rfl) ?_
        refine lv_dup hx hb dX5_mark_126 rfl ?_
        refine va_get (D := D) (ci := 4) (v := .long (tr)) (C := RX5) (T := TX5) (N := 21) hx hb hts (iX5) hown hK hP 0 rfl rfl 0 (by decide) (hts _ (List.mem_cons_of_mem _ wt_600)) (fun _ h9 => h9) rfl dX5_mark_127 ?_
        refine lv_ldc2 (v := 1011) hx hb hown (hts _ (List.mem_cons_of_mem _ wt_863)) dX5_mark_130 ?_
        refine lv_ladd hx hb dX5_mark_133 ?_
        refine va_put (D := D) (ci := 4) (v := .long (tr + 1011)) (ty := .long) (C := RX5) (T := TX5) (N := 21) hx hb hts (iX5) tyX5 tyX5_ok nmX5 hown hK hP hD hS 0 rfl rfl 0 (by decide) (hts _ (List.mem_cons_of_mem _ wt_600)) (fun _ h9 => h9) rfl (by decide +kernel) (rfl) (rfl) (Nat.le_of_ble_eq_true rfl) dX5_mark_134 (fun H locs hP hD hS => ?_)
        have hP : va_P D cls5 [(am 0, .inr (4, [.long (tr + 1011), .ref (am 1), .int (nI (j 0)), .ref (am 2), .ref (am 3), .ref (am 4), .ref (am 5), .ref (am 6), .ref (am 7), .ref (am 8), .ref (am 9), .int (nI (j 1)), .int (nI (j 2)), .int (nI (j 3)), .int (nI (j 4)), .int (fl), .int (bI (hh)), .ref (am 10), .ref (am 11), .ref (am 12), .int (nI (j 5))])), (am 4, .inl (G.1, 2, .inl (nF (g 4)))), (am 5, .inl (G.1, 12, .inl (nF (g 5)))), (am 8, .inl (G.1, 12, .inl (nF (g 8)))), (am 10, .inl (G.1, 240, .inl (nF (g 10))))] H := hP
        have hD : va_D A [(am 0, .inr (4, [.long (tr + 1011), .ref (am 1), .int (nI (j 0)), .ref (am 2), .ref (am 3), .ref (am 4), .ref (am 5), .ref (am 6), .ref (am 7), .ref (am 8), .ref (am 9), .int (nI (j 1)), .int (nI (j 2)), .int (nI (j 3)), .int (nI (j 4)), .int (fl), .int (bI (hh)), .ref (am 10), .ref (am 11), .ref (am 12), .int (nI (j 5))])), (am 4, .inl (G.1, 2, .inl (nF (g 4)))), (am 5, .inl (G.1, 12, .inl (nF (g 5)))), (am 8, .inl (G.1, 12, .inl (nF (g 8)))), (am 10, .inl (G.1, 240, .inl (nF (g 10))))] := hD
        refine lv_iconst (v := nI (2)) hx hb dX5_mark_137 (by decide) ?_
        refine lv_aload_n hx hb dX5_mark_138 rfl (lv_at hl 0 rfl) ?_
        refine va_get (D := D) (ci := 4) (v := .ref (am 5)) (C := RX5) (T := TX5) (N := 21) hx hb hts (iX5) hown hK hP 0 rfl rfl 6 (by decide) (hts _ (List.mem_cons_of_mem _ wt_606)) (fun _ h9 => h9) rfl dX5_mark_139 ?_
        refine lv_iload_n hx hb dX5_mark_142 rfl (lv_at hl 2 rfl) ?_
        refine n_iald hx hb hK hP 2 (f := g 5) rfl (by omega) dX5_mark_143 ?_
        refine n_tope (show nI (g 5 t) = nI (lP (f 5 t) 0) from congrArg nI ((m5 t (by omega)).1)) ?_
        refine lv_aload_n hx hb dX5_mark_144 rfl (lv_at hl 0 rfl) ?_
        refine va_get (D := D) (ci := 4) (v := .ref (am 10)) (C := RX5) (T := TX5) (N := 21) hx hb hts (iX5) hown hK hP 0 rfl rfl 17 (by decide) (hts _ (List.mem_cons_of_mem _ wt_617)) (fun _ h9 => h9) rfl dX5_mark_145 ?_
        refine lv_iload_n hx hb dX5_mark_148 rfl (lv_at hl 2 rfl) ?_
        refine n_iald hx hb hK hP 4 (f := g 10) rfl (by omega) dX5_mark_149 ?_
        refine n_tope (show nI (g 10 t) = nI (f 7 t) from congrArg nI ((m0 t (by omega)).trans (if_pos (by omega)))) ?_
        refine n_iadd hx hb dX5_mark_150 ?_
        refine n_imul hx hb dX5_mark_151 ?_
        exact wr_iret (tr + 1011) hx hb hr hlocks hAe hS dX5_mark_152 (hP) (by simp only [spMark, e_t, show ir (nI 3) 0 5 = some 3 from rfl, Option.elim]; exact Prod.ext (congrArg nI (Nat.mul_comm _ _)) rfl)
      · refine lv_tableIn (off := 132) (tgt := 153) hx hb dX5_mark_21 (by decide) (by decide) (by decide) (by decide) ?_
        refine lv_aload_n hx hb dX5_mark_153 rfl (lv_at hl 0 rfl) ?_
        refine lv_dup hx hb dX5_mark_154 rfl ?_
        refine va_get (D := D) (ci := 4) (v := .long (tr)) (C := RX5) (T := TX5) (N := 21) hx hb hts (iX5) hown hK hP 0 rfl rfl 0 (by decide) (hts _ (List.mem_cons_of_mem _ wt_600)) (fun _ h9 => h9) rfl dX5_mark_155 ?_
        refine lv_ldc2 (v := 10101) hx hb hown (hts _ (List.mem_cons_of_mem _ wt_864)) dX5_mark_158 ?_
        refine lv_ladd hx hb dX5_mark_161 ?_
        refine va_put (D := D) (ci := 4) (v := .long (tr + 10101)) (ty := .long) (C := RX5) (T := TX5) (N := 21) hx hb hts (iX5) tyX5 tyX5_ok nmX5 hown hK hP hD hS 0 rfl rfl 0 (by decide) (hts _ (List.mem_cons_of_mem _ wt_600)) (fun _ h9 => h9) rfl (by decide +kernel) (rfl) (rfl) (Nat.le_of_ble_eq_true rfl) dX5_mark_162 (fun H locs hP hD hS => ?_)
        have hP : va_P D cls5 [(am 0, .inr (4, [.long (tr + 10101), .ref (am 1), .int (nI (j 0)), .ref (am 2), .ref (am 3), .ref (am 4), .ref (am 5), .ref (am 6), .ref (am 7), .ref (am 8), .ref (am 9), .int (nI (j 1)), .int (nI (j 2)), .int (nI (j 3)), .int (nI (j 4)), .int (fl), .int (bI (hh)), .ref (am 10), .ref (am 11), .ref (am 12), .int (nI (j 5))])), (am 4, .inl (G.1, 2, .inl (nF (g 4)))), (am 5, .inl (G.1, 12, .inl (nF (g 5)))), (am 8, .inl (G.1, 12, .inl (nF (g 8)))), (am 10, .inl (G.1, 240, .inl (nF (g 10))))] H := hP
        have hD : va_D A [(am 0, .inr (4, [.long (tr + 10101), .ref (am 1), .int (nI (j 0)), .ref (am 2), .ref (am 3), .ref (am 4), .ref (am 5), .ref (am 6), .ref (am 7), .ref (am 8), .ref (am 9), .int (nI (j 1)), .int (nI (j 2)), .int (nI (j 3)), .int (nI (j 4)), .int (fl), .int (bI (hh)), .ref (am 10), .ref (am 11), .ref (am 12), .int (nI (j 5))])), (am 4, .inl (G.1, 2, .inl (nF (g 4)))), (am 5, .inl (G.1, 12, .inl (nF (g 5)))), (am 8, .inl (G.1, 12, .inl (nF (g 8)))), (am 10, .inl (G.1, 240, .inl (nF (g 10))))] := hD
        refine lv_aload_n hx hb dX5_mark_165 rfl (lv_at hl 0 rfl) ?_
        refine va_get (D := D) (ci := 4) (v := .ref (am 5)) (C := RX5) (T := TX5) (N := 21) hx hb hts (iX5) hown hK hP 0 rfl rfl 6 (by decide) (hts _ (List.mem_cons_of_mem _ wt_606)) (fun _ h9 => h9) rfl dX5_mark_166 ?_
        refine lv_iload_n hx hb dX5_mark_169 rfl (lv_at hl 2 rfl) ?_
        refine n_iald hx hb hK hP 2 (f := g 5) rfl (by omega) dX5_mark_170 ?_
        refine n_tope (show nI (g 5 t) = nI (lP (f 5 t) 0) from congrArg nI ((m5 t (by omega)).1)) ?_
        refine lv_aload_n hx hb dX5_mark_171 rfl (lv_at hl 0 rfl) ?_
        refine va_get (D := D) (ci := 4) (v := .ref (am 8)) (C := RX5) (T := TX5) (N := 21) hx hb hts (iX5) hown hK hP 0 rfl rfl 9 (by decide) (hts _ (List.mem_cons_of_mem _ wt_609)) (fun _ h9 => h9) rfl dX5_mark_172 ?_
        refine lv_iload_n hx hb dX5_mark_175 rfl (lv_at hl 2 rfl) ?_
        refine n_iald hx hb hK hP 3 (f := g 8) rfl (by omega) dX5_mark_176 ?_
        refine n_tope (show nI (g 8 t) = nI (lP (f 5 t) 3) from congrArg nI ((m5 t (by omega)).2.2.2)) ?_
        refine lv_isub hx hb dX5_mark_177 ?_
        refine lv_iload_n hx hb dX5_mark_178 rfl (lv_at hl 2 rfl) ?_
        refine lv_iadd hx hb dX5_mark_179 ?_
        exact wr_iret (tr + 10101) hx hb hr hlocks hAe hS dX5_mark_180 (hP) (by simp only [spMark, e_t, show ir (nI 4) 0 5 = some 4 from rfl, Option.elim]; rfl)
      · refine lv_tableOut (tgt := 181) hx hb dX5_mark_21 (by decide) (by decide) ?_
        refine lv_aload_n hx hb dX5_mark_181 rfl (lv_at hl 0 rfl) ?_
        refine lv_dup hx hb dX5_mark_182 rfl ?_
        refine va_get (D := D) (ci := 4) (v := .long (tr)) (C := RX5) (T := TX5) (N := 21) hx hb hts (iX5) hown hK hP 0 rfl rfl 0 (by decide) (hts _ (List.mem_cons_of_mem _ wt_600)) (fun _ h9 => h9) rfl dX5_mark_183 ?_
        refine lv_ldc2 (v := 100001) hx hb hown (hts _ (List.mem_cons_of_mem _ wt_865)) dX5_mark_186 ?_
        refine lv_ladd hx hb dX5_mark_189 ?_
        refine va_put (D := D) (ci := 4) (v := .long (tr + 100001)) (ty := .long) (C := RX5) (T := TX5) (N := 21) hx hb hts (iX5) tyX5 tyX5_ok nmX5 hown hK hP hD hS 0 rfl rfl 0 (by decide) (hts _ (List.mem_cons_of_mem _ wt_600)) (fun _ h9 => h9) rfl (by decide +kernel) (rfl) (rfl) (Nat.le_of_ble_eq_true rfl) dX5_mark_190 (fun H locs hP hD hS => ?_)
        have hP : va_P D cls5 [(am 0, .inr (4, [.long (tr + 100001), .ref (am 1), .int (nI (j 0)), .ref (am 2), .ref (am 3), .ref (am 4), .ref (am 5), .ref (am 6), .ref (am 7), .ref (am 8), .ref (am 9), .int (nI (j 1)), .int (nI (j 2)), .int (nI (j 3)), .int (nI (j 4)), .int (fl), .int (bI (hh)), .ref (am 10), .ref (am 11), .ref (am 12), .int (nI (j 5))])), (am 4, .inl (G.1, 2, .inl (nF (g 4)))), (am 5, .inl (G.1, 12, .inl (nF (g 5)))), (am 8, .inl (G.1, 12, .inl (nF (g 8)))), (am 10, .inl (G.1, 240, .inl (nF (g 10))))] H := hP
        have hD : va_D A [(am 0, .inr (4, [.long (tr + 100001), .ref (am 1), .int (nI (j 0)), .ref (am 2), .ref (am 3), .ref (am 4), .ref (am 5), .ref (am 6), .ref (am 7), .ref (am 8), .ref (am 9), .int (nI (j 1)), .int (nI (j 2)), .int (nI (j 3)), .int (nI (j 4)), .int (fl), .int (bI (hh)), .ref (am 10), .ref (am 11), .ref (am 12), .int (nI (j 5))])), (am 4, .inl (G.1, 2, .inl (nF (g 4)))), (am 5, .inl (G.1, 12, .inl (nF (g 5)))), (am 8, .inl (G.1, 12, .inl (nF (g 8)))), (am 10, .inl (G.1, 240, .inl (nF (g 10))))] := hD
        refine lv_aload_n hx hb dX5_mark_193 rfl (lv_at hl 0 rfl) ?_
        refine va_get (D := D) (ci := 4) (v := .ref (am 5)) (C := RX5) (T := TX5) (N := 21) hx hb hts (iX5) hown hK hP 0 rfl rfl 6 (by decide) (hts _ (List.mem_cons_of_mem _ wt_606)) (fun _ h9 => h9) rfl dX5_mark_194 ?_
        refine lv_iload_n hx hb dX5_mark_197 rfl (lv_at hl 2 rfl) ?_
        refine n_iald hx hb hK hP 2 (f := g 5) rfl (by omega) dX5_mark_198 ?_
        refine n_tope (show nI (g 5 t) = nI (lP (f 5 t) 0) from congrArg nI ((m5 t (by omega)).1)) ?_
        refine lv_aload_n hx hb dX5_mark_199 rfl (lv_at hl 0 rfl) ?_
        refine va_get (D := D) (ci := 4) (v := .ref (am 10)) (C := RX5) (T := TX5) (N := 21) hx hb hts (iX5) hown hK hP 0 rfl rfl 17 (by decide) (hts _ (List.mem_cons_of_mem _ wt_617)) (fun _ h9 => h9) rfl dX5_mark_200 ?_
        refine lv_bipush (v := nI (6)) hx hb dX5_mark_203 (by decide) ?_
        refine n_iald hx hb hK hP 4 (f := g 10) rfl (by omega) dX5_mark_205 ?_
        refine n_tope (show nI (g 10 6) = nI (k 5) from congrArg nI (m6)) ?_
        refine n_iadd hx hb dX5_mark_206 ?_
        exact wr_iret (tr + 100001) hx hb hr hlocks hAe hS dX5_mark_207 (hP) (by simp only [spMark, e_t, show ir (nI 5) 0 5 = some 5 from rfl, Option.elim]; rfl)
    · have e_t := ix_no c_14
      refine lv_ldc (v := (-1000000)) hx hb hown (hts _ (List.mem_cons_of_mem _ wt_860)) dX5_mark_17 ?_
      exact wr_iret (tr) hx hb hr hlocks hAe hS dX5_mark_19 (hP) (by simp only [spMark, e_t, Option.elim])

set_option maxHeartbeats 4000000 in
set_option maxRecDepth 100000 in
theorem c_X5_copy (l : Launch) (D : va_G) (G : ClassId × ClassId × ClassId) (H0 : Heap) (am n : Nat → Nat) (f : Nat → Nat → Nat) (k : Nat → Nat) (g : Nat → Nat → Nat) (j : Nat → Nat) (tx : Nat → Int32) (fl : Int32) (hh : Bool) (kp : Nat → Bool) (tr : Int64) (fr t0 : Nat) (h1 : fr + 80 ≤ 240) (h2 : t0 + 80 ≤ 240) (h3 : fr + 80 ≤ t0 ∨ t0 + 80 ≤ fr) : Met l yX5_copy (wM yX5_copy cX5_copy 4 none) (rmD 1) (wP D G [.ref (am 0), .int (nI fr), .int (nI t0)] [(am 0, .inr (4, [.long (tr), .ref (am 1), .int (nI (j 0)), .ref (am 2), .ref (am 3), .ref (am 4), .ref (am 5), .ref (am 6), .ref (am 7), .ref (am 8), .ref (am 9), .int (nI (j 1)), .int (nI (j 2)), .int (nI (j 3)), .int (nI (j 4)), .int (fl), .int (bI (hh)), .ref (am 10), .ref (am 11), .ref (am 12), .int (nI (j 5))])), (am 10, .inl (G.1, 240, .inl (nF (g 10))))] H0) (wQv (S := Unit) D (fun _ => True) [(am 0, .inr (4, [.long (tr), .ref (am 1), .int (nI (j 0)), .ref (am 2), .ref (am 3), .ref (am 4), .ref (am 5), .ref (am 6), .ref (am 7), .ref (am 8), .ref (am 9), .int (nI (j 1)), .int (nI (j 2)), .int (nI (j 3)), .int (nI (j 4)), .int (fl), .int (bI (hh)), .ref (am 10), .ref (am 11), .ref (am 12), .int (nI (j 5))])), (am 10, .inl (G.1, 240, .inl (nF (g 10))))] (fun _ => [(am 0, .inr (4, [.long (tr), .ref (am 1), .int (nI (j 0)), .ref (am 2), .ref (am 3), .ref (am 4), .ref (am 5), .ref (am 6), .ref (am 7), .ref (am 8), .ref (am 9), .int (nI (j 1)), .int (nI (j 2)), .int (nI (j 3)), .int (nI (j 4)), .int (fl), .int (bI (hh)), .ref (am 10), .ref (am 11), .ref (am 12), .int (nI (j 5))])), (am 10, .inl (G.1, 240, .inl (nF (cpA (g 10) fr t0 80))))]) H0) 0 0 (va_A [(am 0, .inr (4, [.long (tr), .ref (am 1), .int (nI (j 0)), .ref (am 2), .ref (am 3), .ref (am 4), .ref (am 5), .ref (am 6), .ref (am 7), .ref (am 8), .ref (am 9), .int (nI (j 1)), .int (nI (j 2)), .int (nI (j 3)), .int (nI (j 4)), .int (fl), .int (bI (hh)), .ref (am 10), .ref (am 11), .ref (am 12), .int (nI (j 5))])), (am 10, .inl (G.1, 240, .inl (nF (g 10))))] H0.size) := by
  refine wr_start (Qc := fun H0 => (wQv (S := Unit) D (fun _ => True) [(am 0, .inr (4, [.long (tr), .ref (am 1), .int (nI (j 0)), .ref (am 2), .ref (am 3), .ref (am 4), .ref (am 5), .ref (am 6), .ref (am 7), .ref (am 8), .ref (am 9), .int (nI (j 1)), .int (nI (j 2)), .int (nI (j 3)), .int (nI (j 4)), .int (fl), .int (bI (hh)), .ref (am 10), .ref (am 11), .ref (am 12), .int (nI (j 5))])), (am 10, .inl (G.1, 240, .inl (nF (g 10))))] (fun _ => [(am 0, .inr (4, [.long (tr), .ref (am 1), .int (nI (j 0)), .ref (am 2), .ref (am 3), .ref (am 4), .ref (am 5), .ref (am 6), .ref (am 7), .ref (am 8), .ref (am 9), .int (nI (j 1)), .int (nI (j 2)), .int (nI (j 3)), .int (nI (j 4)), .int (fl), .int (bI (hh)), .ref (am 10), .ref (am 11), .ref (am 12), .int (nI (j 5))])), (am 10, .inl (G.1, 240, .inl (nF (cpA (g 10) fr t0 80))))]) H0)) (by decide) (Nat.le_of_ble_eq_true rfl) ?_
  intro p e s m args below meth c hx hb hr hts hown hlocks hml hK A hAe hA hH0 ls hl H locs hP hD hS
  have hl : lv_has ls 4 [(0, .ref (am 0)), (1, .int (nI fr)), (2, .int (nI t0))] := hl
  rw [show nF (g 10) = nF (cpA (g 10) fr t0 0) from congrArg nF (cpA_0 (g 10) fr t0).symm] at hP hD
  have hP : va_P D cls5 [(am 0, .inr (4, [.long (tr), .ref (am 1), .int (nI (j 0)), .ref (am 2), .ref (am 3), .ref (am 4), .ref (am 5), .ref (am 6), .ref (am 7), .ref (am 8), .ref (am 9), .int (nI (j 1)), .int (nI (j 2)), .int (nI (j 3)), .int (nI (j 4)), .int (fl), .int (bI (hh)), .ref (am 10), .ref (am 11), .ref (am 12), .int (nI (j 5))])), (am 10, .inl (G.1, 240, .inl (nF (cpA (g 10) fr t0 0))))] H := hP
  have hD : va_D A [(am 0, .inr (4, [.long (tr), .ref (am 1), .int (nI (j 0)), .ref (am 2), .ref (am 3), .ref (am 4), .ref (am 5), .ref (am 6), .ref (am 7), .ref (am 8), .ref (am 9), .int (nI (j 1)), .int (nI (j 2)), .int (nI (j 3)), .int (nI (j 4)), .int (fl), .int (bI (hh)), .ref (am 10), .ref (am 11), .ref (am 12), .int (nI (j 5))])), (am 10, .inl (G.1, 240, .inl (nF (cpA (g 10) fr t0 0))))] := hD
  refine lv_iconst (v := nI (0)) hx hb dX5_copy_0 (by decide) ?_
  refine lv_istore_n (lv' := [(3, .int (nI 0)), (0, .ref (am 0)), (1, .int (nI fr)), (2, .int (nI t0))]) hx hb dX5_copy_1 rfl hl (by decide) rfl (fun ls hl => ?_)
  have loop_1 : ∀ (fuel : Nat) (i : Nat), (i ≤ 80) → (80 - i) < fuel → ∀ (H : Heap) (locs : List Loc), va_P D cls5 [(am 0, .inr (4, [.long (tr), .ref (am 1), .int (nI (j 0)), .ref (am 2), .ref (am 3), .ref (am 4), .ref (am 5), .ref (am 6), .ref (am 7), .ref (am 8), .ref (am 9), .int (nI (j 1)), .int (nI (j 2)), .int (nI (j 3)), .int (nI (j 4)), .int (fl), .int (bI (hh)), .ref (am 10), .ref (am 11), .ref (am 12), .int (nI (j 5))])), (am 10, .inl (G.1, 240, .inl (nF (cpA (g 10) fr t0 i))))] H → va_D A [(am 0, .inr (4, [.long (tr), .ref (am 1), .int (nI (j 0)), .ref (am 2), .ref (am 3), .ref (am 4), .ref (am 5), .ref (am 6), .ref (am 7), .ref (am 8), .ref (am 9), .int (nI (j 1)), .int (nI (j 2)), .int (nI (j 3)), .int (nI (j 4)), .int (fl), .int (bI (hh)), .ref (am 10), .ref (am 11), .ref (am 12), .int (nI (j 5))])), (am 10, .inl (G.1, 240, .inl (nF (cpA (g 10) fr t0 i))))] → va_S A s.heap H locs → ∀ (ls : Array Slot), lv_has ls 4 [(0, .ref (am 0)), (1, .int (nI fr)), (2, .int (nI t0)), (3, .int (nI i))] → W p l e (rmD 1) s m args below meth c H locs 0 0 (MQ below (wQv (S := Unit) D (fun _ => True) [(am 0, .inr (4, [.long (tr), .ref (am 1), .int (nI (j 0)), .ref (am 2), .ref (am 3), .ref (am 4), .ref (am 5), .ref (am 6), .ref (am 7), .ref (am 8), .ref (am 9), .int (nI (j 1)), .int (nI (j 2)), .int (nI (j 3)), .int (nI (j 4)), .int (fl), .int (bI (hh)), .ref (am 10), .ref (am 11), .ref (am 12), .int (nI (j 5))])), (am 10, .inl (G.1, 240, .inl (nF (g 10))))] (fun _ => [(am 0, .inr (4, [.long (tr), .ref (am 1), .int (nI (j 0)), .ref (am 2), .ref (am 3), .ref (am 4), .ref (am 5), .ref (am 6), .ref (am 7), .ref (am 8), .ref (am 9), .int (nI (j 1)), .int (nI (j 2)), .int (nI (j 3)), .int (nI (j 4)), .int (fl), .int (bI (hh)), .ref (am 10), .ref (am 11), .ref (am 12), .int (nI (j 5))])), (am 10, .inl (G.1, 240, .inl (nF (cpA (g 10) fr t0 80))))]) s.heap) args s 0 0 A) (F0 m 2 ls []) := by
    intro fuel
    induction fuel with
    | zero => intro i hi hfu; exact absurd hfu (Nat.not_lt_zero _)
    | succ fuel ih_2 =>
      intro i hi hfu H locs hP hD hS ls hl
      refine lv_iload_n hx hb dX5_copy_2 rfl (lv_at hl 3 rfl) ?_
      refine lv_bipush (v := nI (80)) hx hb dX5_copy_3 (by decide) ?_
      refine n_icmp_ge (tgt := 30) hx hb dX5_copy_5 (by decide) (by omega) (by omega) (fun c_5 => ?_) (fun c_5 => ?_)
      · exact wr_vret (()) hx hb hr hlocks hAe hS dX5_copy_30 (by obtain rfl : i = 80 := (by omega); exact hP) (trivial)
      · refine lv_aload_n hx hb dX5_copy_8 rfl (lv_at hl 0 rfl) ?_
        refine va_get (D := D) (ci := 4) (v := .ref (am 10)) (C := RX5) (T := TX5) (N := 21) hx hb hts (iX5) hown hK hP 0 rfl rfl 17 (by decide) (hts _ (List.mem_cons_of_mem _ wt_617)) (fun _ h9 => h9) rfl dX5_copy_9 ?_
        refine lv_iload_n hx hb dX5_copy_12 rfl (lv_at hl 2 rfl) ?_
        refine lv_iload_n hx hb dX5_copy_13 rfl (lv_at hl 3 rfl) ?_
        refine n_iadd hx hb dX5_copy_14 ?_
        refine lv_aload_n hx hb dX5_copy_15 rfl (lv_at hl 0 rfl) ?_
        refine va_get (D := D) (ci := 4) (v := .ref (am 10)) (C := RX5) (T := TX5) (N := 21) hx hb hts (iX5) hown hK hP 0 rfl rfl 17 (by decide) (hts _ (List.mem_cons_of_mem _ wt_617)) (fun _ h9 => h9) rfl dX5_copy_16 ?_
        refine lv_iload_n hx hb dX5_copy_19 rfl (lv_at hl 1 rfl) ?_
        refine lv_iload_n hx hb dX5_copy_20 rfl (lv_at hl 3 rfl) ?_
        refine n_iadd hx hb dX5_copy_21 ?_
        refine n_iald hx hb hK hP 1 (f := cpA (g 10) fr t0 i) rfl (by omega) dX5_copy_22 ?_
        refine n_tope (show nI ((cpA (g 10) fr t0 i) (fr + i)) = nI (g 10 (fr + i)) from congrArg nI (cpA_at (by omega))) ?_
        refine n_iast hx hb hK hP hD hS 1 (f := cpA (g 10) fr t0 i) rfl (by omega) dX5_copy_23 (fun H locs hP hD hS => ?_)
        rw [cpA_s] at hP hD
        have hP : va_P D cls5 [(am 0, .inr (4, [.long (tr), .ref (am 1), .int (nI (j 0)), .ref (am 2), .ref (am 3), .ref (am 4), .ref (am 5), .ref (am 6), .ref (am 7), .ref (am 8), .ref (am 9), .int (nI (j 1)), .int (nI (j 2)), .int (nI (j 3)), .int (nI (j 4)), .int (fl), .int (bI (hh)), .ref (am 10), .ref (am 11), .ref (am 12), .int (nI (j 5))])), (am 10, .inl (G.1, 240, .inl (nF (cpA (g 10) fr t0 (i + 1)))))] H := hP
        have hD : va_D A [(am 0, .inr (4, [.long (tr), .ref (am 1), .int (nI (j 0)), .ref (am 2), .ref (am 3), .ref (am 4), .ref (am 5), .ref (am 6), .ref (am 7), .ref (am 8), .ref (am 9), .int (nI (j 1)), .int (nI (j 2)), .int (nI (j 3)), .int (nI (j 4)), .int (fl), .int (bI (hh)), .ref (am 10), .ref (am 11), .ref (am 12), .int (nI (j 5))])), (am 10, .inl (G.1, 240, .inl (nF (cpA (g 10) fr t0 (i + 1)))))] := hD
        refine lv_iinc (v := nI (i + 1)) (lv' := [(3, .int (nI (i + 1))), (0, .ref (am 0)), (1, .int (nI fr)), (2, .int (nI t0))]) hx hb dX5_copy_24 hl (k := 3) rfl (nI_inc _ _) (by decide) rfl (fun ls hl => ?_)
        refine lv_goto (tgt := 2) hx hb dX5_copy_27 (by decide) ?_
        exact ih_2 (i + 1) (by omega) (by omega) H locs hP hD hS _ (lv_sub hl [1, 2, 3, 0] rfl)
  exact loop_1 (80 - 0 + 1) (0) (by omega) (Nat.lt_succ_self _) H locs hP hD hS _ (lv_sub hl [1, 2, 3, 0] rfl)

set_option maxHeartbeats 4000000 in
set_option maxRecDepth 100000 in
theorem c_X5_keep (l : Launch) (D : va_G) (G : ClassId × ClassId × ClassId) (H0 : Heap) (am n : Nat → Nat) (f : Nat → Nat → Nat) (k : Nat → Nat) (g : Nat → Nat → Nat) (j : Nat → Nat) (tx : Nat → Int32) (fl : Int32) (hh : Bool) (kp : Nat → Bool) (tr : Int64) (b : Nat → Bool) (q : Nat) (a : Int32) (hI : XI n f k q) (hM : RQ n f k g) (hkp : kp 0 = b 1 ∧ kp 1 = b 2) (hIm : rIm (n 5) (g 10) (b 1) (b 2) (f 9) (n 10) (f 10) (k 6) (f 11) (n 12) (f 12) (k 7)) (h10 : n 10 ≤ 12) (h12 : n 12 ≤ 12) : Met l yX5_keep (wM yX5_keep cX5_keep 2 (some .int)) (rmD 2) (wP D G [.ref (am 0), .int (a)] [(am 0, .inr (4, [.long (tr), .ref (am 1), .int (nI (j 0)), .ref (am 2), .ref (am 3), .ref (am 4), .ref (am 5), .ref (am 6), .ref (am 7), .ref (am 8), .ref (am 9), .int (nI (j 1)), .int (nI (j 2)), .int (nI (j 3)), .int (nI (j 4)), .int (fl), .int (bI (hh)), .ref (am 10), .ref (am 11), .ref (am 12), .int (nI (j 5))])), (am 10, .inl (G.1, 240, .inl (nF (g 10)))), (am 11, .inl (G.2.2, 2, .inl (bF kp)))] H0) (wQi (S := (Nat → Nat) × (Nat → Bool)) D (fun r u => r = (spKeep n f k b a).1 ∧ (reN (n 5) u.1 (f 7) (n 8) (f 8) (k 5) ∧ True) ∧ (u.2 0 = (spKeep n f k b a).2.2.2.2.2.2.2.2.2.2.2.1 ∧ u.2 1 = (spKeep n f k b a).2.2.2.2.2.2.2.2.2.2.2.2) ∧ rIm (n 5) u.1 (spKeep n f k b a).2.2.2.2.2.2.2.2.2.2.2.1 (spKeep n f k b a).2.2.2.2.2.2.2.2.2.2.2.2 (spKeep n f k b a).2.2.1 (spKeep n f k b a).2.2.2.1 (spKeep n f k b a).2.2.2.2.1 (spKeep n f k b a).2.2.2.2.2.1 (spKeep n f k b a).2.2.2.2.2.2.2.1 (spKeep n f k b a).2.2.2.2.2.2.2.2.1 (spKeep n f k b a).2.2.2.2.2.2.2.2.2.1 (spKeep n f k b a).2.2.2.2.2.2.2.2.2.2.1) [(am 0, .inr (4, [.long (tr), .ref (am 1), .int (nI (j 0)), .ref (am 2), .ref (am 3), .ref (am 4), .ref (am 5), .ref (am 6), .ref (am 7), .ref (am 8), .ref (am 9), .int (nI (j 1)), .int (nI (j 2)), .int (nI (j 3)), .int (nI (j 4)), .int (fl), .int (bI (hh)), .ref (am 10), .ref (am 11), .ref (am 12), .int (nI (j 5))])), (am 10, .inl (G.1, 240, .inl (nF (g 10)))), (am 11, .inl (G.2.2, 2, .inl (bF kp)))] (fun u => [(am 0, .inr (4, [.long (tr), .ref (am 1), .int (nI (j 0)), .ref (am 2), .ref (am 3), .ref (am 4), .ref (am 5), .ref (am 6), .ref (am 7), .ref (am 8), .ref (am 9), .int (nI (j 1)), .int (nI (j 2)), .int (nI (j 3)), .int (nI (j 4)), .int (fl), .int (bI (hh)), .ref (am 10), .ref (am 11), .ref (am 12), .int (nI (j 5))])), (am 10, .inl (G.1, 240, .inl (nF (u.1)))), (am 11, .inl (G.2.2, 2, .inl (bF u.2)))]) H0) 0 0 (va_A [(am 0, .inr (4, [.long (tr), .ref (am 1), .int (nI (j 0)), .ref (am 2), .ref (am 3), .ref (am 4), .ref (am 5), .ref (am 6), .ref (am 7), .ref (am 8), .ref (am 9), .int (nI (j 1)), .int (nI (j 2)), .int (nI (j 3)), .int (nI (j 4)), .int (fl), .int (bI (hh)), .ref (am 10), .ref (am 11), .ref (am 12), .int (nI (j 5))])), (am 10, .inl (G.1, 240, .inl (nF (g 10)))), (am 11, .inl (G.2.2, 2, .inl (bF kp)))] H0.size) := by
  refine wr_start (Qc := fun H0 => (wQi (S := (Nat → Nat) × (Nat → Bool)) D (fun r u => r = (spKeep n f k b a).1 ∧ (reN (n 5) u.1 (f 7) (n 8) (f 8) (k 5) ∧ True) ∧ (u.2 0 = (spKeep n f k b a).2.2.2.2.2.2.2.2.2.2.2.1 ∧ u.2 1 = (spKeep n f k b a).2.2.2.2.2.2.2.2.2.2.2.2) ∧ rIm (n 5) u.1 (spKeep n f k b a).2.2.2.2.2.2.2.2.2.2.2.1 (spKeep n f k b a).2.2.2.2.2.2.2.2.2.2.2.2 (spKeep n f k b a).2.2.1 (spKeep n f k b a).2.2.2.1 (spKeep n f k b a).2.2.2.2.1 (spKeep n f k b a).2.2.2.2.2.1 (spKeep n f k b a).2.2.2.2.2.2.2.1 (spKeep n f k b a).2.2.2.2.2.2.2.2.1 (spKeep n f k b a).2.2.2.2.2.2.2.2.2.1 (spKeep n f k b a).2.2.2.2.2.2.2.2.2.2.1) [(am 0, .inr (4, [.long (tr), .ref (am 1), .int (nI (j 0)), .ref (am 2), .ref (am 3), .ref (am 4), .ref (am 5), .ref (am 6), .ref (am 7), .ref (am 8), .ref (am 9), .int (nI (j 1)), .int (nI (j 2)), .int (nI (j 3)), .int (nI (j 4)), .int (fl), .int (bI (hh)), .ref (am 10), .ref (am 11), .ref (am 12), .int (nI (j 5))])), (am 10, .inl (G.1, 240, .inl (nF (g 10)))), (am 11, .inl (G.2.2, 2, .inl (bF kp)))] (fun u => [(am 0, .inr (4, [.long (tr), .ref (am 1), .int (nI (j 0)), .ref (am 2), .ref (am 3), .ref (am 4), .ref (am 5), .ref (am 6), .ref (am 7), .ref (am 8), .ref (am 9), .int (nI (j 1)), .int (nI (j 2)), .int (nI (j 3)), .int (nI (j 4)), .int (fl), .int (bI (hh)), .ref (am 10), .ref (am 11), .ref (am 12), .int (nI (j 5))])), (am 10, .inl (G.1, 240, .inl (nF (u.1)))), (am 11, .inl (G.2.2, 2, .inl (bF u.2)))]) H0)) (by decide) (Nat.le_of_ble_eq_true rfl) ?_
  intro p e s m args below meth c hx hb hr hts hown hlocks hml hK A hAe hA hH0 ls hl H locs hP hD hS
  have hl : lv_has ls 2 [(0, .ref (am 0)), (1, .int (a))] := hl
  have hI0 := hI
  have hM0 := hM
  obtain ⟨i4, i5, i6, iq, iw, il, i7, i8, ih9, ik, iF⟩ := hI
  obtain ⟨m2, m3, m4, m5, m0, m6, m7, m8⟩ := hM
  have hN0 : reN (n 5) (g 10) (f 7) (n 8) (f 8) (k 5) ∧ True := ⟨hM0.2.2.2.2, trivial⟩
  refine lv_iload_n hx hb dX5_keep_0 rfl (lv_at hl 1 rfl) ?_
  refine lv_iconst (v := nI (0)) hx hb dX5_keep_1 (by decide) ?_
  refine lv_iconst (v := nI (1)) hx hb dX5_keep_2 (by decide) ?_
  refine ro_i (roS_run (As := [.int (a), .int (nI 0), .int (nI 1)]) (rest := []) hx hb hml hown hts Tg_M (c_X5_in l D G _ (a) (nI (0)) (nI (1))) lk_RX5_52 ⟨rfl, rfl, Nat.le_of_ble_eq_true rfl, Nat.le_of_ble_eq_true rfl⟩ hP hK [] rfl rfl hl rfl (Nat.le_of_ble_eq_true rfl) dX5_keep_3 ⟨Nat.le_of_ble_eq_true rfl, Nat.le_of_ble_eq_true rfl⟩) hS hA (fun locs hS => ?_)
  refine b_if_ne (tgt := 11) hx hb dX5_keep_6 (by decide) (fun c_6 => ?_) (fun c_6 => ?_)
  · obtain ⟨im, g_im, h_im, rfl⟩ := inR_N (by decide) (by decide) c_6
    have e_im := ir_yes g_im h_im (by decide)
    rcases (show im = 0 ∨ im = 1 by omega) with rfl | rfl
    · refine lv_aload_n hx hb dX5_keep_11 rfl (lv_at hl 0 rfl) ?_
      refine lv_iconst (v := nI (0)) hx hb dX5_keep_12 (by decide) ?_
      refine lv_bipush (v := nI (80)) hx hb dX5_keep_13 (by decide) ?_
      refine lv_iconst (v := nI (1)) hx hb dX5_keep_15 (by decide) ?_
      refine lv_iload_n hx hb dX5_keep_16 rfl (lv_at hl 1 rfl) ?_
      refine n_iadd hx hb dX5_keep_17 ?_
      refine n_imul hx hb dX5_keep_18 ?_
      refine wr_v (wrV_run (As := [.int (nI 0), .int (nI 80)]) (rest := []) hx hb hml hown hts Tg_M (c_X5_copy l D G _ am n f k g j tx fl hh kp tr 0 80 (by omega) (by omega) (by omega)) lk_RX5_188 ⟨rfl, rfl, Nat.le_of_ble_eq_true rfl, Nat.le_of_ble_eq_true rfl⟩ hP hD hK [0, 1] rfl rfl 0 4 rfl rfl rfl rfl hl rfl (Nat.le_of_ble_eq_true rfl) dX5_keep_19 ⟨Nat.le_of_ble_eq_true rfl, Nat.le_of_ble_eq_true rfl⟩) hP hD [0, 1] rfl (fun _ => rfl) hS hA (fun _ H locs _ hP hD hS => ?_)
      have hP : va_P D cls5 [(am 0, .inr (4, [.long (tr), .ref (am 1), .int (nI (j 0)), .ref (am 2), .ref (am 3), .ref (am 4), .ref (am 5), .ref (am 6), .ref (am 7), .ref (am 8), .ref (am 9), .int (nI (j 1)), .int (nI (j 2)), .int (nI (j 3)), .int (nI (j 4)), .int (fl), .int (bI (hh)), .ref (am 10), .ref (am 11), .ref (am 12), .int (nI (j 5))])), (am 10, .inl (G.1, 240, .inl (nF (cpA (g 10) 0 80 80)))), (am 11, .inl (G.2.2, 2, .inl (bF kp)))] H := hP
      have hD : va_D A [(am 0, .inr (4, [.long (tr), .ref (am 1), .int (nI (j 0)), .ref (am 2), .ref (am 3), .ref (am 4), .ref (am 5), .ref (am 6), .ref (am 7), .ref (am 8), .ref (am 9), .int (nI (j 1)), .int (nI (j 2)), .int (nI (j 3)), .int (nI (j 4)), .int (fl), .int (bI (hh)), .ref (am 10), .ref (am 11), .ref (am 12), .int (nI (j 5))])), (am 10, .inl (G.1, 240, .inl (nF (cpA (g 10) 0 80 80)))), (am 11, .inl (G.2.2, 2, .inl (bF kp)))] := hD
      refine lv_aload_n hx hb dX5_keep_22 rfl (lv_at hl 0 rfl) ?_
      refine va_get (D := D) (ci := 4) (v := .ref (am 11)) (C := RX5) (T := TX5) (N := 21) hx hb hts (iX5) hown hK hP 0 rfl rfl 18 (by decide) (hts _ (List.mem_cons_of_mem _ wt_618)) (fun _ h9 => h9) rfl dX5_keep_23 ?_
      refine lv_iload_n hx hb dX5_keep_26 rfl (lv_at hl 1 rfl) ?_
      refine lv_iconst (v := nI (1)) hx hb dX5_keep_27 (by decide) ?_
      refine n_tope (show nI (1) = bI (true) from rfl) ?_
      refine n_zast (kp := kp) hx hb hK hP hD hS 2 rfl true (by omega) (by omega) dX5_keep_28 (fun H locs hP hD hS => ?_)
      have hP : va_P D cls5 [(am 0, .inr (4, [.long (tr), .ref (am 1), .int (nI (j 0)), .ref (am 2), .ref (am 3), .ref (am 4), .ref (am 5), .ref (am 6), .ref (am 7), .ref (am 8), .ref (am 9), .int (nI (j 1)), .int (nI (j 2)), .int (nI (j 3)), .int (nI (j 4)), .int (fl), .int (bI (hh)), .ref (am 10), .ref (am 11), .ref (am 12), .int (nI (j 5))])), (am 10, .inl (G.1, 240, .inl (nF (cpA (g 10) 0 80 80)))), (am 11, .inl (G.2.2, 2, .inl (bF (va_up kp 0 true))))] H := hP
      have hD : va_D A [(am 0, .inr (4, [.long (tr), .ref (am 1), .int (nI (j 0)), .ref (am 2), .ref (am 3), .ref (am 4), .ref (am 5), .ref (am 6), .ref (am 7), .ref (am 8), .ref (am 9), .int (nI (j 1)), .int (nI (j 2)), .int (nI (j 3)), .int (nI (j 4)), .int (fl), .int (bI (hh)), .ref (am 10), .ref (am 11), .ref (am 12), .int (nI (j 5))])), (am 10, .inl (G.1, 240, .inl (nF (cpA (g 10) 0 80 80)))), (am 11, .inl (G.2.2, 2, .inl (bF (va_up kp 0 true))))] := hD
      refine lv_aload_n hx hb dX5_keep_29 rfl (lv_at hl 0 rfl) ?_
      refine va_get (D := D) (ci := 4) (v := .ref (am 10)) (C := RX5) (T := TX5) (N := 21) hx hb hts (iX5) hown hK hP 0 rfl rfl 17 (by decide) (hts _ (List.mem_cons_of_mem _ wt_617)) (fun _ h9 => h9) rfl dX5_keep_30 ?_
      refine lv_bipush (v := nI (7)) hx hb dX5_keep_33 (by decide) ?_
      refine n_iald hx hb hK hP 1 (f := cpA (g 10) 0 80 80) rfl (by omega) dX5_keep_35 ?_
      refine n_tope (show nI ((cpA (g 10) 0 80 80) 7) = nI (n 8) from congrArg nI ((cpA_at (by omega)).trans m7)) ?_
      exact wr_iret ((cpA (g 10) 0 80 80, (va_up kp 0 true))) hx hb hr hlocks hAe hS dX5_keep_36 (hP) (by simp only [spKeep, e_im, Option.elim]; exact ⟨by trivial, ⟨reN_map hN0.1 (fun x hx => cpA_at (by omega)) i8 (fun _ _ => rfl) (fun _ _ => rfl), trivial⟩, ⟨by simp [va_up], by simp [va_up, hkp.2]⟩, fun _ => reN_map hN0.1 (fun x hx => cpA_in (u := g 10) (fr := 0) (t0 := 80) hx |>.trans (congrArg (g 10) (Nat.zero_add x))) i8 (fun t ht => cpN_at (by omega)) (fun x hx => cpN_at hx), fun z => reN_keep (hIm.2 z) h12 (fun x _ => cpA_at (by omega))⟩)
    · refine lv_aload_n hx hb dX5_keep_11 rfl (lv_at hl 0 rfl) ?_
      refine lv_iconst (v := nI (0)) hx hb dX5_keep_12 (by decide) ?_
      refine lv_bipush (v := nI (80)) hx hb dX5_keep_13 (by decide) ?_
      refine lv_iconst (v := nI (1)) hx hb dX5_keep_15 (by decide) ?_
      refine lv_iload_n hx hb dX5_keep_16 rfl (lv_at hl 1 rfl) ?_
      refine n_iadd hx hb dX5_keep_17 ?_
      refine n_imul hx hb dX5_keep_18 ?_
      refine wr_v (wrV_run (As := [.int (nI 0), .int (nI 160)]) (rest := []) hx hb hml hown hts Tg_M (c_X5_copy l D G _ am n f k g j tx fl hh kp tr 0 160 (by omega) (by omega) (by omega)) lk_RX5_188 ⟨rfl, rfl, Nat.le_of_ble_eq_true rfl, Nat.le_of_ble_eq_true rfl⟩ hP hD hK [0, 1] rfl rfl 0 4 rfl rfl rfl rfl hl rfl (Nat.le_of_ble_eq_true rfl) dX5_keep_19 ⟨Nat.le_of_ble_eq_true rfl, Nat.le_of_ble_eq_true rfl⟩) hP hD [0, 1] rfl (fun _ => rfl) hS hA (fun _ H locs _ hP hD hS => ?_)
      have hP : va_P D cls5 [(am 0, .inr (4, [.long (tr), .ref (am 1), .int (nI (j 0)), .ref (am 2), .ref (am 3), .ref (am 4), .ref (am 5), .ref (am 6), .ref (am 7), .ref (am 8), .ref (am 9), .int (nI (j 1)), .int (nI (j 2)), .int (nI (j 3)), .int (nI (j 4)), .int (fl), .int (bI (hh)), .ref (am 10), .ref (am 11), .ref (am 12), .int (nI (j 5))])), (am 10, .inl (G.1, 240, .inl (nF (cpA (g 10) 0 160 80)))), (am 11, .inl (G.2.2, 2, .inl (bF kp)))] H := hP
      have hD : va_D A [(am 0, .inr (4, [.long (tr), .ref (am 1), .int (nI (j 0)), .ref (am 2), .ref (am 3), .ref (am 4), .ref (am 5), .ref (am 6), .ref (am 7), .ref (am 8), .ref (am 9), .int (nI (j 1)), .int (nI (j 2)), .int (nI (j 3)), .int (nI (j 4)), .int (fl), .int (bI (hh)), .ref (am 10), .ref (am 11), .ref (am 12), .int (nI (j 5))])), (am 10, .inl (G.1, 240, .inl (nF (cpA (g 10) 0 160 80)))), (am 11, .inl (G.2.2, 2, .inl (bF kp)))] := hD
      refine lv_aload_n hx hb dX5_keep_22 rfl (lv_at hl 0 rfl) ?_
      refine va_get (D := D) (ci := 4) (v := .ref (am 11)) (C := RX5) (T := TX5) (N := 21) hx hb hts (iX5) hown hK hP 0 rfl rfl 18 (by decide) (hts _ (List.mem_cons_of_mem _ wt_618)) (fun _ h9 => h9) rfl dX5_keep_23 ?_
      refine lv_iload_n hx hb dX5_keep_26 rfl (lv_at hl 1 rfl) ?_
      refine lv_iconst (v := nI (1)) hx hb dX5_keep_27 (by decide) ?_
      refine n_tope (show nI (1) = bI (true) from rfl) ?_
      refine n_zast (kp := kp) hx hb hK hP hD hS 2 rfl true (by omega) (by omega) dX5_keep_28 (fun H locs hP hD hS => ?_)
      have hP : va_P D cls5 [(am 0, .inr (4, [.long (tr), .ref (am 1), .int (nI (j 0)), .ref (am 2), .ref (am 3), .ref (am 4), .ref (am 5), .ref (am 6), .ref (am 7), .ref (am 8), .ref (am 9), .int (nI (j 1)), .int (nI (j 2)), .int (nI (j 3)), .int (nI (j 4)), .int (fl), .int (bI (hh)), .ref (am 10), .ref (am 11), .ref (am 12), .int (nI (j 5))])), (am 10, .inl (G.1, 240, .inl (nF (cpA (g 10) 0 160 80)))), (am 11, .inl (G.2.2, 2, .inl (bF (va_up kp 1 true))))] H := hP
      have hD : va_D A [(am 0, .inr (4, [.long (tr), .ref (am 1), .int (nI (j 0)), .ref (am 2), .ref (am 3), .ref (am 4), .ref (am 5), .ref (am 6), .ref (am 7), .ref (am 8), .ref (am 9), .int (nI (j 1)), .int (nI (j 2)), .int (nI (j 3)), .int (nI (j 4)), .int (fl), .int (bI (hh)), .ref (am 10), .ref (am 11), .ref (am 12), .int (nI (j 5))])), (am 10, .inl (G.1, 240, .inl (nF (cpA (g 10) 0 160 80)))), (am 11, .inl (G.2.2, 2, .inl (bF (va_up kp 1 true))))] := hD
      refine lv_aload_n hx hb dX5_keep_29 rfl (lv_at hl 0 rfl) ?_
      refine va_get (D := D) (ci := 4) (v := .ref (am 10)) (C := RX5) (T := TX5) (N := 21) hx hb hts (iX5) hown hK hP 0 rfl rfl 17 (by decide) (hts _ (List.mem_cons_of_mem _ wt_617)) (fun _ h9 => h9) rfl dX5_keep_30 ?_
      refine lv_bipush (v := nI (7)) hx hb dX5_keep_33 (by decide) ?_
      refine n_iald hx hb hK hP 1 (f := cpA (g 10) 0 160 80) rfl (by omega) dX5_keep_35 ?_
      refine n_tope (show nI ((cpA (g 10) 0 160 80) 7) = nI (n 8) from congrArg nI ((cpA_at (by omega)).trans m7)) ?_
      exact wr_iret ((cpA (g 10) 0 160 80, (va_up kp 1 true))) hx hb hr hlocks hAe hS dX5_keep_36 (hP) (by simp only [spKeep, e_im, Option.elim]; exact ⟨by trivial, ⟨reN_map hN0.1 (fun x hx => cpA_at (by omega)) i8 (fun _ _ => rfl) (fun _ _ => rfl), trivial⟩, ⟨by simp [va_up, hkp.1], by simp [va_up]⟩, fun z => reN_keep (hIm.1 z) h10 (fun x hx => cpA_at (by omega)), fun _ => reN_map hN0.1 (fun x hx => cpA_in (u := g 10) (fr := 0) (t0 := 160) hx |>.trans (congrArg (g 10) (Nat.zero_add x))) i8 (fun t ht => cpN_at (by omega)) (fun x hx => cpN_at hx)⟩)
  · have e_im := ir_no c_6
    refine lv_iconst (v := (-1)) hx hb dX5_keep_9 (by decide) ?_
    exact wr_iret ((g 10, kp)) hx hb hr hlocks hAe hS dX5_keep_10 (hP) (by simp only [spKeep, e_im, Option.elim]; exact ⟨by trivial, hN0, hkp, hIm⟩)

set_option maxHeartbeats 4000000 in
set_option maxRecDepth 100000 in
theorem c_X5_back (l : Launch) (D : va_G) (G : ClassId × ClassId × ClassId) (H0 : Heap) (am n : Nat → Nat) (f : Nat → Nat → Nat) (k : Nat → Nat) (g : Nat → Nat → Nat) (j : Nat → Nat) (tx : Nat → Int32) (fl : Int32) (hh : Bool) (kp : Nat → Bool) (tr : Int64) (b : Nat → Bool) (q : Nat) (a : Int32) (hI : XI n f k q) (hM : RQ n f k g) (hkp : kp 0 = b 1 ∧ kp 1 = b 2) (hIm : rIm (n 5) (g 10) (b 1) (b 2) (f 9) (n 10) (f 10) (k 6) (f 11) (n 12) (f 12) (k 7)) (h10 : n 10 ≤ 12) (h12 : n 12 ≤ 12) (h9 : b 1 = true → n 9 = n 5) (h11 : b 2 = true → n 11 = n 5) : Met l yX5_back (wM yX5_back cX5_back 2 (some .int)) (rmD 2) (wP D G [.ref (am 0), .int (a)] [(am 0, .inr (4, [.long (tr), .ref (am 1), .int (nI (j 0)), .ref (am 2), .ref (am 3), .ref (am 4), .ref (am 5), .ref (am 6), .ref (am 7), .ref (am 8), .ref (am 9), .int (nI (j 1)), .int (nI (j 2)), .int (nI (j 3)), .int (nI (j 4)), .int (fl), .int (bI (hh)), .ref (am 10), .ref (am 11), .ref (am 12), .int (nI (j 5))])), (am 10, .inl (G.1, 240, .inl (nF (g 10)))), (am 11, .inl (G.2.2, 2, .inl (bF kp)))] H0) (wQi (S := (Nat → Nat)) D (fun r u => r = (spBack n f k b a).1 ∧ reN (n 5) u (spBack n f k b a).2.2.1 (spBack n f k b a).2.2.2.1 (spBack n f k b a).2.2.2.2.1 (spBack n f k b a).2.2.2.2.2 ∧ ∀ x, 80 ≤ x → u x = g 10 x) [(am 0, .inr (4, [.long (tr), .ref (am 1), .int (nI (j 0)), .ref (am 2), .ref (am 3), .ref (am 4), .ref (am 5), .ref (am 6), .ref (am 7), .ref (am 8), .ref (am 9), .int (nI (j 1)), .int (nI (j 2)), .int (nI (j 3)), .int (nI (j 4)), .int (fl), .int (bI (hh)), .ref (am 10), .ref (am 11), .ref (am 12), .int (nI (j 5))])), (am 10, .inl (G.1, 240, .inl (nF (g 10)))), (am 11, .inl (G.2.2, 2, .inl (bF kp)))] (fun u => [(am 0, .inr (4, [.long (tr), .ref (am 1), .int (nI (j 0)), .ref (am 2), .ref (am 3), .ref (am 4), .ref (am 5), .ref (am 6), .ref (am 7), .ref (am 8), .ref (am 9), .int (nI (j 1)), .int (nI (j 2)), .int (nI (j 3)), .int (nI (j 4)), .int (fl), .int (bI (hh)), .ref (am 10), .ref (am 11), .ref (am 12), .int (nI (j 5))])), (am 10, .inl (G.1, 240, .inl (nF (u)))), (am 11, .inl (G.2.2, 2, .inl (bF kp)))]) H0) 0 0 (va_A [(am 0, .inr (4, [.long (tr), .ref (am 1), .int (nI (j 0)), .ref (am 2), .ref (am 3), .ref (am 4), .ref (am 5), .ref (am 6), .ref (am 7), .ref (am 8), .ref (am 9), .int (nI (j 1)), .int (nI (j 2)), .int (nI (j 3)), .int (nI (j 4)), .int (fl), .int (bI (hh)), .ref (am 10), .ref (am 11), .ref (am 12), .int (nI (j 5))])), (am 10, .inl (G.1, 240, .inl (nF (g 10)))), (am 11, .inl (G.2.2, 2, .inl (bF kp)))] H0.size) := by
  refine wr_start (Qc := fun H0 => (wQi (S := (Nat → Nat)) D (fun r u => r = (spBack n f k b a).1 ∧ reN (n 5) u (spBack n f k b a).2.2.1 (spBack n f k b a).2.2.2.1 (spBack n f k b a).2.2.2.2.1 (spBack n f k b a).2.2.2.2.2 ∧ ∀ x, 80 ≤ x → u x = g 10 x) [(am 0, .inr (4, [.long (tr), .ref (am 1), .int (nI (j 0)), .ref (am 2), .ref (am 3), .ref (am 4), .ref (am 5), .ref (am 6), .ref (am 7), .ref (am 8), .ref (am 9), .int (nI (j 1)), .int (nI (j 2)), .int (nI (j 3)), .int (nI (j 4)), .int (fl), .int (bI (hh)), .ref (am 10), .ref (am 11), .ref (am 12), .int (nI (j 5))])), (am 10, .inl (G.1, 240, .inl (nF (g 10)))), (am 11, .inl (G.2.2, 2, .inl (bF kp)))] (fun u => [(am 0, .inr (4, [.long (tr), .ref (am 1), .int (nI (j 0)), .ref (am 2), .ref (am 3), .ref (am 4), .ref (am 5), .ref (am 6), .ref (am 7), .ref (am 8), .ref (am 9), .int (nI (j 1)), .int (nI (j 2)), .int (nI (j 3)), .int (nI (j 4)), .int (fl), .int (bI (hh)), .ref (am 10), .ref (am 11), .ref (am 12), .int (nI (j 5))])), (am 10, .inl (G.1, 240, .inl (nF (u)))), (am 11, .inl (G.2.2, 2, .inl (bF kp)))]) H0)) (by decide) (Nat.le_of_ble_eq_true rfl) ?_
  intro p e s m args below meth c hx hb hr hts hown hlocks hml hK A hAe hA hH0 ls hl H locs hP hD hS
  have hl : lv_has ls 2 [(0, .ref (am 0)), (1, .int (a))] := hl
  have hI0 := hI
  have hM0 := hM
  obtain ⟨i4, i5, i6, iq, iw, il, i7, i8, ih9, ik, iF⟩ := hI
  obtain ⟨m2, m3, m4, m5, m0, m6, m7, m8⟩ := hM
  have hN0 : reN (n 5) (g 10) (f 7) (n 8) (f 8) (k 5) ∧ True := ⟨hM0.2.2.2.2, trivial⟩
  refine lv_iload_n hx hb dX5_back_0 rfl (lv_at hl 1 rfl) ?_
  refine lv_iconst (v := nI (0)) hx hb dX5_back_1 (by decide) ?_
  refine lv_iconst (v := nI (1)) hx hb dX5_back_2 (by decide) ?_
  refine ro_i (roS_run (As := [.int (a), .int (nI 0), .int (nI 1)]) (rest := []) hx hb hml hown hts Tg_M (c_X5_in l D G _ (a) (nI (0)) (nI (1))) lk_RX5_52 ⟨rfl, rfl, Nat.le_of_ble_eq_true rfl, Nat.le_of_ble_eq_true rfl⟩ hP hK [] rfl rfl hl rfl (Nat.le_of_ble_eq_true rfl) dX5_back_3 ⟨Nat.le_of_ble_eq_true rfl, Nat.le_of_ble_eq_true rfl⟩) hS hA (fun locs hS => ?_)
  refine b_if_ne (tgt := 11) hx hb dX5_back_6 (by decide) (fun c_6 => ?_) (fun c_6 => ?_)
  · obtain ⟨im, g_im, h_im, rfl⟩ := inR_N (by decide) (by decide) c_6
    have e_im := ir_yes g_im h_im (by decide)
    rcases (show im = 0 ∨ im = 1 by omega) with rfl | rfl
    · refine lv_aload_n hx hb dX5_back_11 rfl (lv_at hl 0 rfl) ?_
      refine va_get (D := D) (ci := 4) (v := .ref (am 11)) (C := RX5) (T := TX5) (N := 21) hx hb hts (iX5) hown hK hP 0 rfl rfl 18 (by decide) (hts _ (List.mem_cons_of_mem _ wt_618)) (fun _ h9 => h9) rfl dX5_back_12 ?_
      refine lv_iload_n hx hb dX5_back_15 rfl (lv_at hl 1 rfl) ?_
      refine n_zald hx hb hK hP 2 (f := bF kp) rfl (by omega) (by omega) dX5_back_16 ?_
      refine n_tope (show bF kp 0 = bI (b 1) from congrArg bI hkp.1) ?_
      refine b_if_ne (tgt := 23) hx hb dX5_back_17 (by decide) (fun c_17 => ?_) (fun c_17 => ?_)
      · have c9 := c_17
        refine lv_aload_n hx hb dX5_back_23 rfl (lv_at hl 0 rfl) ?_
        refine lv_bipush (v := nI (80)) hx hb dX5_back_24 (by decide) ?_
        refine lv_iconst (v := nI (1)) hx hb dX5_back_26 (by decide) ?_
        refine lv_iload_n hx hb dX5_back_27 rfl (lv_at hl 1 rfl) ?_
        refine n_iadd hx hb dX5_back_28 ?_
        refine n_imul hx hb dX5_back_29 ?_
        refine lv_iconst (v := nI (0)) hx hb dX5_back_30 (by decide) ?_
        refine wr_v (wrV_run (As := [.int (nI 80), .int (nI 0)]) (rest := []) hx hb hml hown hts Tg_M (c_X5_copy l D G _ am n f k g j tx fl hh kp tr 80 0 (by omega) (by omega) (by omega)) lk_RX5_188 ⟨rfl, rfl, Nat.le_of_ble_eq_true rfl, Nat.le_of_ble_eq_true rfl⟩ hP hD hK [0, 1] rfl rfl 0 4 rfl rfl rfl rfl hl rfl (Nat.le_of_ble_eq_true rfl) dX5_back_31 ⟨Nat.le_of_ble_eq_true rfl, Nat.le_of_ble_eq_true rfl⟩) hP hD [0, 1] rfl (fun _ => rfl) hS hA (fun _ H locs _ hP hD hS => ?_)
        have hP : va_P D cls5 [(am 0, .inr (4, [.long (tr), .ref (am 1), .int (nI (j 0)), .ref (am 2), .ref (am 3), .ref (am 4), .ref (am 5), .ref (am 6), .ref (am 7), .ref (am 8), .ref (am 9), .int (nI (j 1)), .int (nI (j 2)), .int (nI (j 3)), .int (nI (j 4)), .int (fl), .int (bI (hh)), .ref (am 10), .ref (am 11), .ref (am 12), .int (nI (j 5))])), (am 10, .inl (G.1, 240, .inl (nF (cpA (g 10) 80 0 80)))), (am 11, .inl (G.2.2, 2, .inl (bF kp)))] H := hP
        have hD : va_D A [(am 0, .inr (4, [.long (tr), .ref (am 1), .int (nI (j 0)), .ref (am 2), .ref (am 3), .ref (am 4), .ref (am 5), .ref (am 6), .ref (am 7), .ref (am 8), .ref (am 9), .int (nI (j 1)), .int (nI (j 2)), .int (nI (j 3)), .int (nI (j 4)), .int (fl), .int (bI (hh)), .ref (am 10), .ref (am 11), .ref (am 12), .int (nI (j 5))])), (am 10, .inl (G.1, 240, .inl (nF (cpA (g 10) 80 0 80)))), (am 11, .inl (G.2.2, 2, .inl (bF kp)))] := hD
        have h99 := h9 c9
        refine lv_aload_n hx hb dX5_back_34 rfl (lv_at hl 0 rfl) ?_
        refine va_get (D := D) (ci := 4) (v := .ref (am 10)) (C := RX5) (T := TX5) (N := 21) hx hb hts (iX5) hown hK hP 0 rfl rfl 17 (by decide) (hts _ (List.mem_cons_of_mem _ wt_617)) (fun _ h9 => h9) rfl dX5_back_35 ?_
        refine lv_bipush (v := nI (7)) hx hb dX5_back_38 (by decide) ?_
        refine n_iald hx hb hK hP 1 (f := cpA (g 10) 80 0 80) rfl (by omega) dX5_back_40 ?_
        refine n_tope (show nI ((cpA (g 10) 80 0 80) 7) = nI (n 10) from congrArg nI ((show cpA (g 10) _ 0 80 7 = _ from cpA_in (t0 := 0) (i := 7) (by omega)).trans (hIm.1 c9).2.2.1)) ?_
        exact wr_iret (cpA (g 10) 80 0 80) hx hb hr hlocks hAe hS dX5_back_41 (hP) (by simp only [spBack, e_im, Option.elim]; rw [if_pos c9]; exact ⟨by trivial, reN_map (hIm.1 c9) (fun x hx => (show cpA (g 10) 80 0 80 x = _ from by rw [show x = 0 + x by omega]; exact (cpA_in (t0 := 0) (i := x) hx).trans (by rw [Nat.zero_add]))) h10 (fun t ht => cpN_at (by omega)) (fun x hx => cpN_at hx), fun x hx => cpA_at (by omega)⟩)
      · have c9 := c_17
        refine lv_bipush (v := (-2)) hx hb dX5_back_20 (by decide) ?_
        exact wr_iret (g 10) hx hb hr hlocks hAe hS dX5_back_22 (hP) (by simp only [spBack, e_im, Option.elim]; rw [if_neg (show ¬ b 1 = true by rw [c9]; decide)]; exact ⟨by trivial, hN0.1, fun _ _ => by trivial⟩)
    · refine lv_aload_n hx hb dX5_back_11 rfl (lv_at hl 0 rfl) ?_
      refine va_get (D := D) (ci := 4) (v := .ref (am 11)) (C := RX5) (T := TX5) (N := 21) hx hb hts (iX5) hown hK hP 0 rfl rfl 18 (by decide) (hts _ (List.mem_cons_of_mem _ wt_618)) (fun _ h9 => h9) rfl dX5_back_12 ?_
      refine lv_iload_n hx hb dX5_back_15 rfl (lv_at hl 1 rfl) ?_
      refine n_zald hx hb hK hP 2 (f := bF kp) rfl (by omega) (by omega) dX5_back_16 ?_
      refine n_tope (show bF kp 1 = bI (b 2) from congrArg bI hkp.2) ?_
      refine b_if_ne (tgt := 23) hx hb dX5_back_17 (by decide) (fun c_17 => ?_) (fun c_17 => ?_)
      · have c9 := c_17
        refine lv_aload_n hx hb dX5_back_23 rfl (lv_at hl 0 rfl) ?_
        refine lv_bipush (v := nI (80)) hx hb dX5_back_24 (by decide) ?_
        refine lv_iconst (v := nI (1)) hx hb dX5_back_26 (by decide) ?_
        refine lv_iload_n hx hb dX5_back_27 rfl (lv_at hl 1 rfl) ?_
        refine n_iadd hx hb dX5_back_28 ?_
        refine n_imul hx hb dX5_back_29 ?_
        refine lv_iconst (v := nI (0)) hx hb dX5_back_30 (by decide) ?_
        refine wr_v (wrV_run (As := [.int (nI 160), .int (nI 0)]) (rest := []) hx hb hml hown hts Tg_M (c_X5_copy l D G _ am n f k g j tx fl hh kp tr 160 0 (by omega) (by omega) (by omega)) lk_RX5_188 ⟨rfl, rfl, Nat.le_of_ble_eq_true rfl, Nat.le_of_ble_eq_true rfl⟩ hP hD hK [0, 1] rfl rfl 0 4 rfl rfl rfl rfl hl rfl (Nat.le_of_ble_eq_true rfl) dX5_back_31 ⟨Nat.le_of_ble_eq_true rfl, Nat.le_of_ble_eq_true rfl⟩) hP hD [0, 1] rfl (fun _ => rfl) hS hA (fun _ H locs _ hP hD hS => ?_)
        have hP : va_P D cls5 [(am 0, .inr (4, [.long (tr), .ref (am 1), .int (nI (j 0)), .ref (am 2), .ref (am 3), .ref (am 4), .ref (am 5), .ref (am 6), .ref (am 7), .ref (am 8), .ref (am 9), .int (nI (j 1)), .int (nI (j 2)), .int (nI (j 3)), .int (nI (j 4)), .int (fl), .int (bI (hh)), .ref (am 10), .ref (am 11), .ref (am 12), .int (nI (j 5))])), (am 10, .inl (G.1, 240, .inl (nF (cpA (g 10) 160 0 80)))), (am 11, .inl (G.2.2, 2, .inl (bF kp)))] H := hP
        have hD : va_D A [(am 0, .inr (4, [.long (tr), .ref (am 1), .int (nI (j 0)), .ref (am 2), .ref (am 3), .ref (am 4), .ref (am 5), .ref (am 6), .ref (am 7), .ref (am 8), .ref (am 9), .int (nI (j 1)), .int (nI (j 2)), .int (nI (j 3)), .int (nI (j 4)), .int (fl), .int (bI (hh)), .ref (am 10), .ref (am 11), .ref (am 12), .int (nI (j 5))])), (am 10, .inl (G.1, 240, .inl (nF (cpA (g 10) 160 0 80)))), (am 11, .inl (G.2.2, 2, .inl (bF kp)))] := hD
        have h99 := h11 c9
        refine lv_aload_n hx hb dX5_back_34 rfl (lv_at hl 0 rfl) ?_
        refine va_get (D := D) (ci := 4) (v := .ref (am 10)) (C := RX5) (T := TX5) (N := 21) hx hb hts (iX5) hown hK hP 0 rfl rfl 17 (by decide) (hts _ (List.mem_cons_of_mem _ wt_617)) (fun _ h9 => h9) rfl dX5_back_35 ?_
        refine lv_bipush (v := nI (7)) hx hb dX5_back_38 (by decide) ?_
        refine n_iald hx hb hK hP 1 (f := cpA (g 10) 160 0 80) rfl (by omega) dX5_back_40 ?_
        refine n_tope (show nI ((cpA (g 10) 160 0 80) 7) = nI (n 12) from congrArg nI ((show cpA (g 10) _ 0 80 7 = _ from cpA_in (t0 := 0) (i := 7) (by omega)).trans (hIm.2 c9).2.2.1)) ?_
        exact wr_iret (cpA (g 10) 160 0 80) hx hb hr hlocks hAe hS dX5_back_41 (hP) (by simp only [spBack, e_im, Option.elim]; rw [if_pos c9]; exact ⟨by trivial, reN_map (hIm.2 c9) (fun x hx => (show cpA (g 10) 160 0 80 x = _ from by rw [show x = 0 + x by omega]; exact (cpA_in (t0 := 0) (i := x) hx).trans (by rw [Nat.zero_add]))) h12 (fun t ht => cpN_at (by omega)) (fun x hx => cpN_at hx), fun x hx => cpA_at (by omega)⟩)
      · have c9 := c_17
        refine lv_bipush (v := (-2)) hx hb dX5_back_20 (by decide) ?_
        exact wr_iret (g 10) hx hb hr hlocks hAe hS dX5_back_22 (hP) (by simp only [spBack, e_im, Option.elim]; rw [if_neg (show ¬ b 2 = true by rw [c9]; decide)]; exact ⟨by trivial, hN0.1, fun _ _ => by trivial⟩)
  · have e_im := ir_no c_6
    refine lv_iconst (v := (-1)) hx hb dX5_back_9 (by decide) ?_
    exact wr_iret (g 10) hx hb hr hlocks hAe hS dX5_back_10 (hP) (by simp only [spBack, e_im, Option.elim]; exact ⟨by trivial, hN0.1, fun _ _ => by trivial⟩)
