set_option maxHeartbeats 4000000 in
set_option maxRecDepth 100000 in
theorem lc_20 {p : Program} {l : Launch} {e : Env} {s : State} {m : MethodId} {sb : Nat} {below : List Frame} {meth : Method} {c : Code} {D : va_G} {G : ClassId × ClassId × ClassId} {A : Nat → Prop} {ad am : Nat → Nat} {i q : Nat} {K : (Nat → Nat) × (Nat → Nat)} {L : Nat} {xs : Nat → Int32} (C0 : lw_At p s m meth c sb L xs) (hAe : A = fun q : Nat => s.heap.size ≤ q) (hK : va_K D cls5 (tys3 G) s) (hZ : ZS K A s s.heap) (hiL : i + 6 ≤ L) (hL : L ≤ 3072) (hq : q + 1 ≤ 4000) (kk : LGo p l e s m sb below meth c D G A ad am i (q + 1) 1025) : LGo p l e s m sb below meth c D G A ad am i q 790 := by
  obtain ⟨hx, hb, hr, hml, hown, hts, hX, hbl, hlocks, hgv⟩ := id C0
  have hA : ∀ q, s.heap.size ≤ q → A q := fun q h => by rw [hAe]; exact h
  have hbA : ¬ A sb := by rw [hAe]; exact Nat.not_le.mpr hbl
  intro n f k b v tr j fl hh g tx kp hLI H locs hP hD hS ls hl
  have hP : va_P D cls5 [(ad 0, .inr (3, [.ref (ad 1), .ref (ad 10), .ref (ad 12), .ref (ad 14), .ref (ad 16), .ref (ad 21), .ref (ad 26), .int (bI (b 1)), .int (bI (b 2)), .long (tr)])), (ad 1, .inr (1, [.ref (ad 2), .ref (ad 4), .ref (ad 6), .int (nI (k 0)), .int (nI (k 1)), .ref (ad 8), .int (bI (b 0)), .int (nI (k 2)), .int (nI (k 3)), .int (nI (k 4)), .int (v)])), (ad 2, .inr (2, [.ref (ad 3), .int (nI (n 0))])), (ad 3, .inl (G.1, 200, .inl (nF (f 0)))), (ad 4, .inr (2, [.ref (ad 5), .int (nI (n 1))])), (ad 5, .inl (G.1, 5, .inl (nF (f 1)))), (ad 6, .inr (2, [.ref (ad 7), .int (nI (n 2))])), (ad 7, .inl (G.1, 6, .inl (nF (f 2)))), (ad 8, .inr (2, [.ref (ad 9), .int (nI (n 3))])), (ad 9, .inl (G.1, 4, .inl (nF (f 3)))), (ad 10, .inr (2, [.ref (ad 11), .int (nI (n 4))])), (ad 11, .inl (G.1, 5, .inl (nF (f 4)))), (ad 12, .inr (2, [.ref (ad 13), .int (nI (n 5))])), (ad 13, .inl (G.1, 6, .inl (nF (f 5)))), (ad 14, .inr (2, [.ref (ad 15), .int (nI (4 * n 6))])), (ad 15, .inl (G.1, 32, .inl (nF (f 6)))), (ad 16, .inr (0, [.ref (ad 17), .ref (ad 19), .int (nI (k 5))])), (ad 17, .inr (2, [.ref (ad 18), .int (nI (n 7))])), (ad 18, .inl (G.1, 6, .inl (nF (f 7)))), (ad 19, .inr (2, [.ref (ad 20), .int (nI (6 * n 8))])), (ad 20, .inl (G.1, 72, .inl (nF (f 8)))), (ad 21, .inr (0, [.ref (ad 22), .ref (ad 24), .int (nI (k 6))])), (ad 22, .inr (2, [.ref (ad 23), .int (nI (n 9))])), (ad 23, .inl (G.1, 6, .inl (nF (f 9)))), (ad 24, .inr (2, [.ref (ad 25), .int (nI (6 * n 10))])), (ad 25, .inl (G.1, 72, .inl (nF (f 10)))), (ad 26, .inr (0, [.ref (ad 27), .ref (ad 29), .int (nI (k 7))])), (ad 27, .inr (2, [.ref (ad 28), .int (nI (n 11))])), (ad 28, .inl (G.1, 6, .inl (nF (f 11)))), (ad 29, .inr (2, [.ref (ad 30), .int (nI (6 * n 12))])), (ad 30, .inl (G.1, 72, .inl (nF (f 12)))), (am 0, .inr (4, [.long (tr), .ref (am 1), .int (nI (n 0)), .ref (am 2), .ref (am 3), .ref (am 4), .ref (am 5), .ref (am 6), .ref (am 7), .ref (am 8), .ref (am 9), .int (nI (j 1)), .int (nI (j 2)), .int (nI (j 3)), .int (nI (j 4)), .int (fl), .int (bI (hh)), .ref (am 10), .ref (am 11), .ref (am 12), .int (nI (n 6))])), (am 1, .inl (G.2.1, 200, .inl (tx))), (am 2, .inl (G.1, 2, .inl (nF (g 2)))), (am 3, .inl (G.1, 10, .inl (nF (g 3)))), (am 4, .inl (G.1, 2, .inl (nF (g 4)))), (am 5, .inl (G.1, 12, .inl (nF (g 5)))), (am 6, .inl (G.1, 12, .inl (nF (g 6)))), (am 7, .inl (G.1, 12, .inl (nF (g 7)))), (am 8, .inl (G.1, 12, .inl (nF (g 8)))), (am 9, .inl (G.1, 2, .inl (nF (g 9)))), (am 10, .inl (G.1, 240, .inl (nF (g 10)))), (am 11, .inl (G.2.2, 2, .inl (bF kp))), (am 12, .inl (G.1, 32, .inl (nF (g 12))))] H := hP
  have hD : va_D A [(ad 0, .inr (3, [.ref (ad 1), .ref (ad 10), .ref (ad 12), .ref (ad 14), .ref (ad 16), .ref (ad 21), .ref (ad 26), .int (bI (b 1)), .int (bI (b 2)), .long (tr)])), (ad 1, .inr (1, [.ref (ad 2), .ref (ad 4), .ref (ad 6), .int (nI (k 0)), .int (nI (k 1)), .ref (ad 8), .int (bI (b 0)), .int (nI (k 2)), .int (nI (k 3)), .int (nI (k 4)), .int (v)])), (ad 2, .inr (2, [.ref (ad 3), .int (nI (n 0))])), (ad 3, .inl (G.1, 200, .inl (nF (f 0)))), (ad 4, .inr (2, [.ref (ad 5), .int (nI (n 1))])), (ad 5, .inl (G.1, 5, .inl (nF (f 1)))), (ad 6, .inr (2, [.ref (ad 7), .int (nI (n 2))])), (ad 7, .inl (G.1, 6, .inl (nF (f 2)))), (ad 8, .inr (2, [.ref (ad 9), .int (nI (n 3))])), (ad 9, .inl (G.1, 4, .inl (nF (f 3)))), (ad 10, .inr (2, [.ref (ad 11), .int (nI (n 4))])), (ad 11, .inl (G.1, 5, .inl (nF (f 4)))), (ad 12, .inr (2, [.ref (ad 13), .int (nI (n 5))])), (ad 13, .inl (G.1, 6, .inl (nF (f 5)))), (ad 14, .inr (2, [.ref (ad 15), .int (nI (4 * n 6))])), (ad 15, .inl (G.1, 32, .inl (nF (f 6)))), (ad 16, .inr (0, [.ref (ad 17), .ref (ad 19), .int (nI (k 5))])), (ad 17, .inr (2, [.ref (ad 18), .int (nI (n 7))])), (ad 18, .inl (G.1, 6, .inl (nF (f 7)))), (ad 19, .inr (2, [.ref (ad 20), .int (nI (6 * n 8))])), (ad 20, .inl (G.1, 72, .inl (nF (f 8)))), (ad 21, .inr (0, [.ref (ad 22), .ref (ad 24), .int (nI (k 6))])), (ad 22, .inr (2, [.ref (ad 23), .int (nI (n 9))])), (ad 23, .inl (G.1, 6, .inl (nF (f 9)))), (ad 24, .inr (2, [.ref (ad 25), .int (nI (6 * n 10))])), (ad 25, .inl (G.1, 72, .inl (nF (f 10)))), (ad 26, .inr (0, [.ref (ad 27), .ref (ad 29), .int (nI (k 7))])), (ad 27, .inr (2, [.ref (ad 28), .int (nI (n 11))])), (ad 28, .inl (G.1, 6, .inl (nF (f 11)))), (ad 29, .inr (2, [.ref (ad 30), .int (nI (6 * n 12))])), (ad 30, .inl (G.1, 72, .inl (nF (f 12)))), (am 0, .inr (4, [.long (tr), .ref (am 1), .int (nI (n 0)), .ref (am 2), .ref (am 3), .ref (am 4), .ref (am 5), .ref (am 6), .ref (am 7), .ref (am 8), .ref (am 9), .int (nI (j 1)), .int (nI (j 2)), .int (nI (j 3)), .int (nI (j 4)), .int (fl), .int (bI (hh)), .ref (am 10), .ref (am 11), .ref (am 12), .int (nI (n 6))])), (am 1, .inl (G.2.1, 200, .inl (tx))), (am 2, .inl (G.1, 2, .inl (nF (g 2)))), (am 3, .inl (G.1, 10, .inl (nF (g 3)))), (am 4, .inl (G.1, 2, .inl (nF (g 4)))), (am 5, .inl (G.1, 12, .inl (nF (g 5)))), (am 6, .inl (G.1, 12, .inl (nF (g 6)))), (am 7, .inl (G.1, 12, .inl (nF (g 7)))), (am 8, .inl (G.1, 12, .inl (nF (g 8)))), (am 9, .inl (G.1, 2, .inl (nF (g 9)))), (am 10, .inl (G.1, 240, .inl (nF (g 10)))), (am 11, .inl (G.2.2, 2, .inl (bF kp))), (am 12, .inl (G.1, 32, .inl (nF (g 12))))] := hD
  obtain ⟨hI, hM, ⟨h0, hF, hTx⟩, ⟨h1, h2, h3⟩, ⟨hTI, hMT⟩, ⟨h9, h10, h11, h12⟩, ho1, ho2, hIm, hkp⟩ := id hLI
  have h4 := hI.1
  have h5 := hI.2.1
  have h6 := hI.2.2.1
  have h8 := hI.2.2.2.2.2.2.2.1
  have h7 : n 7 ≤ 6 := by rw [hI.2.2.2.2.2.2.1]; exact h5
  refine lv_aload_n hx hb dL_law_790 rfl (lv_at hl 1 rfl) ?_
  refine lv_aload_n hx hb dL_law_791 rfl (lv_at hl 0 rfl) ?_
  refine lv_iload_n hx hb dL_law_792 rfl (lv_at hl 3 rfl) ?_
  refine lv_iconst (v := nI (1)) hx hb dL_law_793 (by decide) ?_
  refine n_iadd hx hb dL_law_794 ?_
  refine va_sld hx hb hX hbl hbA hS (vp_in_nI (show i + 1 < L by omega) (by omega)) dL_law_795 ?_
  refine lv_aload_n hx hb dL_law_796 rfl (lv_at hl 0 rfl) ?_
  refine lv_iload_n hx hb dL_law_797 rfl (lv_at hl 3 rfl) ?_
  refine lv_iconst (v := nI (2)) hx hb dL_law_798 (by decide) ?_
  refine n_iadd hx hb dL_law_799 ?_
  refine va_sld hx hb hX hbl hbA hS (vp_in_nI (show i + 2 < L by omega) (by omega)) dL_law_800 ?_
  refine lv_aload_n hx hb dL_law_801 rfl (lv_at hl 0 rfl) ?_
  refine lv_iload_n hx hb dL_law_802 rfl (lv_at hl 3 rfl) ?_
  refine lv_iconst (v := nI (3)) hx hb dL_law_803 (by decide) ?_
  refine n_iadd hx hb dL_law_804 ?_
  refine va_sld hx hb hX hbl hbA hS (vp_in_nI (show i + 3 < L by omega) (by omega)) dL_law_805 ?_
  refine lv_aload_n hx hb dL_law_806 rfl (lv_at hl 0 rfl) ?_
  refine lv_iload_n hx hb dL_law_807 rfl (lv_at hl 3 rfl) ?_
  refine lv_iconst (v := nI (4)) hx hb dL_law_808 (by decide) ?_
  refine n_iadd hx hb dL_law_809 ?_
  refine va_sld hx hb hX hbl hbA hS (vp_in_nI (show i + 4 < L by omega) (by omega)) dL_law_810 ?_
  refine ro_i (roV_run (As := [.int (xs (nI (i + 1)).toNatClampNeg), .int (xs (nI (i + 2)).toNatClampNeg), .int (xs (nI (i + 3)).toNatClampNeg), .int (xs (nI (i + 4)).toNatClampNeg)]) (rest := []) hx hb hml hown hts Tg_L (c_X4_may l D G _ ad n f k b tr (xs (nI (i + 1)).toNatClampNeg) (xs (nI (i + 2)).toNatClampNeg) (xs (nI (i + 3)).toNatClampNeg) (xs (nI (i + 4)).toNatClampNeg) hTI) lk_RL_102 ⟨rfl, rfl, Nat.le_of_ble_eq_true rfl, Nat.le_of_ble_eq_true rfl⟩ hP hK [0, 14, 15] rfl 0 3 rfl rfl rfl rfl hl rfl (Nat.le_of_ble_eq_true rfl) dL_law_811 ⟨Nat.le_of_ble_eq_true rfl, Nat.le_of_ble_eq_true rfl⟩) hS hA (fun locs hS => ?_)
  refine lv_aload_n hx hb dL_law_814 rfl (lv_at hl 2 rfl) ?_
  refine lv_aload_n hx hb dL_law_815 rfl (lv_at hl 0 rfl) ?_
  refine lv_iload_n hx hb dL_law_816 rfl (lv_at hl 3 rfl) ?_
  refine lv_iconst (v := nI (1)) hx hb dL_law_817 (by decide) ?_
  refine n_iadd hx hb dL_law_818 ?_
  refine va_sld hx hb hX hbl hbA hS (vp_in_nI (show i + 1 < L by omega) (by omega)) dL_law_819 ?_
  refine lv_aload_n hx hb dL_law_820 rfl (lv_at hl 0 rfl) ?_
  refine lv_iload_n hx hb dL_law_821 rfl (lv_at hl 3 rfl) ?_
  refine lv_iconst (v := nI (2)) hx hb dL_law_822 (by decide) ?_
  refine n_iadd hx hb dL_law_823 ?_
  refine va_sld hx hb hX hbl hbA hS (vp_in_nI (show i + 2 < L by omega) (by omega)) dL_law_824 ?_
  refine lv_aload_n hx hb dL_law_825 rfl (lv_at hl 0 rfl) ?_
  refine lv_iload_n hx hb dL_law_826 rfl (lv_at hl 3 rfl) ?_
  refine lv_iconst (v := nI (3)) hx hb dL_law_827 (by decide) ?_
  refine n_iadd hx hb dL_law_828 ?_
  refine va_sld hx hb hX hbl hbA hS (vp_in_nI (show i + 3 < L by omega) (by omega)) dL_law_829 ?_
  refine lv_aload_n hx hb dL_law_830 rfl (lv_at hl 0 rfl) ?_
  refine lv_iload_n hx hb dL_law_831 rfl (lv_at hl 3 rfl) ?_
  refine lv_iconst (v := nI (4)) hx hb dL_law_832 (by decide) ?_
  refine n_iadd hx hb dL_law_833 ?_
  refine va_sld hx hb hX hbl hbA hS (vp_in_nI (show i + 4 < L by omega) (by omega)) dL_law_834 ?_
  refine ro_i (roV_run (As := [.int (xs (nI (i + 1)).toNatClampNeg), .int (xs (nI (i + 2)).toNatClampNeg), .int (xs (nI (i + 3)).toNatClampNeg), .int (xs (nI (i + 4)).toNatClampNeg)]) (rest := [.int ((spMay n f (xs (nI (i + 1)).toNatClampNeg) (xs (nI (i + 2)).toNatClampNeg) (xs (nI (i + 3)).toNatClampNeg) (xs (nI (i + 4)).toNatClampNeg)))]) hx hb hml hown hts Tg_L (c_X5_may l D G _ am n f k g (va_up (va_up j 0 (n 0)) 5 (n 6)) tx fl hh kp tr (xs (nI (i + 1)).toNatClampNeg) (xs (nI (i + 2)).toNatClampNeg) (xs (nI (i + 3)).toNatClampNeg) (xs (nI (i + 4)).toNatClampNeg) hTI ⟨rfl, hMT⟩) lk_RL_105 ⟨rfl, rfl, Nat.le_of_ble_eq_true rfl, Nat.le_of_ble_eq_true rfl⟩ hP hK [31, 43] rfl 31 4 rfl rfl rfl rfl hl rfl (Nat.le_of_ble_eq_true rfl) dL_law_835 ⟨Nat.le_of_ble_eq_true rfl, Nat.le_of_ble_eq_true rfl⟩) hS hA (fun locs hS => ?_)
  refine lv_icmp_eq (tgt := 1025) hx hb dL_law_838 (by decide) (fun c_838 => ?_) (fun c_838 => ?_)
  · exact kk n f k b v tr j fl hh g tx kp (LI_mono (hLI) (Nat.le_succ q) hq) H locs hP hD hS ls hl
  · exact absurd rfl c_838
