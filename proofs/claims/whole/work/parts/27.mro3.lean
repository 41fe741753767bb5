set_option maxHeartbeats 4000000 in
set_option maxRecDepth 100000 in
theorem c_X5_next (l : Launch) (D : va_G) (G : ClassId × ClassId × ClassId) (H0 : Heap) (am n : Nat → Nat) (f : Nat → Nat → Nat) (k : Nat → Nat) (g : Nat → Nat → Nat) (j : Nat → Nat) (tx : Nat → Int32) (fl : Int32) (hh : Bool) (kp : Nat → Bool) (tr : Int64) (q : Nat) (a a2 : Int32) (hI : XI n f k q) (hM : RQ n f k g) : Met l yX5_next (wM yX5_next cX5_next 9 (some .int)) (rmD 5) (rP D G [.ref (am 0), .int (a), .int (a2)] [(am 0, .inr (4, [.long (tr), .ref (am 1), .int (nI (j 0)), .ref (am 2), .ref (am 3), .ref (am 4), .ref (am 5), .ref (am 6), .ref (am 7), .ref (am 8), .ref (am 9), .int (nI (j 1)), .int (nI (j 2)), .int (nI (j 3)), .int (nI (j 4)), .int (fl), .int (bI (hh)), .ref (am 10), .ref (am 11), .ref (am 12), .int (nI (j 5))])), (am 2, .inl (G.1, 2, .inl (nF (g 2)))), (am 4, .inl (G.1, 2, .inl (nF (g 4)))), (am 5, .inl (G.1, 12, .inl (nF (g 5)))), (am 6, .inl (G.1, 12, .inl (nF (g 6)))), (am 7, .inl (G.1, 12, .inl (nF (g 7)))), (am 8, .inl (G.1, 12, .inl (nF (g 8)))), (am 10, .inl (G.1, 240, .inl (nF (g 10))))] H0) (rQi (spNext n f k a a2) H0) 0 0 (rF H0) := by
  refine ro_start (Qc := fun H0 => (rQi (spNext n f k a a2) H0)) (by decide) (Nat.le_of_ble_eq_true rfl) ?_
  intro p e s m args below meth c hx hb hr hts hown hlocks hml hP hK hA hH0 ls hl locs hS
  have hl : lv_has ls 9 [(0, .ref (am 0)), (1, .int (a)), (2, .int (a2))] := hl
  have hI0 := hI
  have hM0 := hM
  obtain ⟨i4, i5, i6, iq, iw, il, i7, i8, ih9, ik, iF⟩ := hI
  obtain ⟨m2, m3, m4, m5, m0, m6, m7, m8⟩ := hM
  refine lv_aload_n hx hb dX5_next_0 rfl (lv_at hl 0 rfl) ?_
  refine lv_iload_n hx hb dX5_next_1 rfl (lv_at hl 1 rfl) ?_
  refine ro_i (roV_run (As := [.int (a)]) (rest := []) hx hb hml hown hts Tg_M (c_X5_isLoad l D G _ am n f k g j tx fl hh kp tr q (a) hI0 hM0) lk_RX5_105 ⟨rfl, rfl, Nat.le_of_ble_eq_true rfl, Nat.le_of_ble_eq_true rfl⟩ hP hK [0, 1] rfl 0 4 rfl rfl rfl rfl hl rfl (Nat.le_of_ble_eq_true rfl) dX5_next_2 ⟨Nat.le_of_ble_eq_true rfl, Nat.le_of_ble_eq_true rfl⟩) hS hA (fun locs hS => ?_)
  refine b_if_eq (tgt := 17) hx hb dX5_next_5 (by decide) (fun c_5 => ?_) (fun c_5 => ?_)
  · have e_i := ix_no c_5
    refine lv_iconst (v := (-1)) hx hb dX5_next_17 (by decide) ?_
    exact ro_iret hx hb hr hlocks hS dX5_next_18 (by simp only [spNext, e_i, Option.elim])
  · obtain ⟨i, h_i, rfl⟩ := hasB_N (by omega) c_5
    have e_i := ix_yes h_i (show n 4 < 2 ^ 31 by omega)
    refine lv_iload_n hx hb dX5_next_8 rfl (lv_at hl 2 rfl) ?_
    refine lv_iconst (v := nI (0)) hx hb dX5_next_9 (by decide) ?_
    refine lv_iconst (v := nI (1)) hx hb dX5_next_10 (by decide) ?_
    refine ro_i (roS_run (As := [.int (a2), .int (nI 0), .int (nI 1)]) (rest := []) hx hb hml hown hts Tg_M (c_X5_in l D G _ (a2) (nI (0)) (nI (1))) lk_RX5_52 ⟨rfl, rfl, Nat.le_of_ble_eq_true rfl, Nat.le_of_ble_eq_true rfl⟩ hP hK [] rfl rfl hl rfl (Nat.le_of_ble_eq_true rfl) dX5_next_11 ⟨Nat.le_of_ble_eq_true rfl, Nat.le_of_ble_eq_true rfl⟩) hS hA (fun locs hS => ?_)
    refine b_if_ne (tgt := 19) hx hb dX5_next_14 (by decide) (fun c_14 => ?_) (fun c_14 => ?_)
    · obtain ⟨w, g_w, h_w, rfl⟩ := inR_N (by decide) (by decide) c_14
      have e_w := ir_yes g_w h_w (by decide)
      refine lv_aload_n hx hb dX5_next_19 rfl (lv_at hl 0 rfl) ?_
      refine lv_iload_n hx hb dX5_next_20 rfl (lv_at hl 1 rfl) ?_
      refine ro_l (roV_run (As := [.int (nI i)]) (rest := []) hx hb hml hown hts Tg_M (c_X5_canBeOf l D G _ am n f k g j tx fl hh kp tr q i hI0 hM0 (by omega)) lk_RX5_120 ⟨rfl, rfl, Nat.le_of_ble_eq_true rfl, Nat.le_of_ble_eq_true rfl⟩ hP hK [0, 3, 4, 5, 6, 7] rfl 0 4 rfl rfl rfl rfl hl rfl (Nat.le_of_ble_eq_true rfl) dX5_next_21 ⟨Nat.le_of_ble_eq_true rfl, Nat.le_of_ble_eq_true rfl⟩) hS hA (fun locs hS => ?_)
      refine n_topl (canW_iv hI0 h_i) ?_
      have z_i := lo_hi hI0 h_i
      have y_i := hiP_le (canW f (n 8) i)
      refine lv_lstore_n (lv' := [(3, .long (seI (loP (canW f (n 8) i)) (hiP (canW f (n 8) i)))), (0, .ref (am 0)), (1, .int (nI i)), (2, .int (nI w))]) hx hb dX5_next_24 rfl hl (by decide) rfl (fun ls hl => ?_)
      refine lv_bipush (v := (-9)) hx hb dX5_next_25 (by decide) ?_
      refine lv_istore (lv' := [(5, .int (-9)), (3, .long (seI (loP (canW f (n 8) i)) (hiP (canW f (n 8) i)))), (0, .ref (am 0)), (1, .int (nI i)), (2, .int (nI w))]) hx hb dX5_next_27 hl (by decide) rfl (fun ls hl => ?_)
      refine lv_bipush (v := (-9)) hx hb dX5_next_29 (by decide) ?_
      refine lv_istore (lv' := [(6, .int (-9)), (5, .int (-9)), (3, .long (seI (loP (canW f (n 8) i)) (hiP (canW f (n 8) i)))), (0, .ref (am 0)), (1, .int (nI i)), (2, .int (nI w))]) hx hb dX5_next_31 hl (by decide) rfl (fun ls hl => ?_)
      refine lv_iconst (v := nI (0)) hx hb dX5_next_33 (by decide) ?_
      refine lv_istore (lv' := [(7, .int (nI 0)), (6, .int (-9)), (5, .int (-9)), (3, .long (seI (loP (canW f (n 8) i)) (hiP (canW f (n 8) i)))), (0, .ref (am 0)), (1, .int (nI i)), (2, .int (nI w))]) hx hb dX5_next_34 hl (by decide) rfl (fun ls hl => ?_)
      have loop_1 : ∀ (fuel : Nat) (t : Nat) (o : Option (Nat × Nat)), (t ≤ n 5) → (optB o (n 5) 61) → (nxS (lw f k (loP (canW f (n 8) i)) (hiP (canW f (n 8) i))) (n 5) 0 none = nxS (lw f k (loP (canW f (n 8) i)) (hiP (canW f (n 8) i))) (n 5 - t) t o) → (n 5 - t) < fuel → ∀ (locs : List Loc), va_S (rF s.heap) s.heap s.heap locs → ∀ (ls : Array Slot), lv_has ls 9 [(0, .ref (am 0)), (2, .int (nI w)), (3, .long (seI (loP (canW f (n 8) i)) (hiP (canW f (n 8) i)))), (5, .int (optI o 0)), (6, .int (optI o 1)), (7, .int (nI t))] → W p l e (rmD 5) s m args below meth c s.heap locs 0 0 (MQ below (rQi (spNext n f k (nI (i)) (nI (w))) s.heap) args s 0 0 (rF s.heap)) (F0 m 36 ls []) := by
        intro fuel
        induction fuel with
        | zero => intro t o hi1 ho hu hfu; exact absurd hfu (Nat.not_lt_zero _)
        | succ fuel ih_2 =>
          intro t o hi1 ho hu hfu locs hS ls hl
          rcases o with _ | ⟨bt, bf⟩
          · have hl : lv_has ls 9 [(0, .ref (am 0)), (2, .int (nI w)), (3, .long (seI (loP (canW f (n 8) i)) (hiP (canW f (n 8) i)))), (5, .int (-9)), (6, .int (-9)), (7, .int (nI t))] := hl
            refine lv_iload hx hb dX5_next_36 (lv_at hl 5 rfl) ?_
            refine lv_aload_n hx hb dX5_next_38 rfl (lv_at hl 0 rfl) ?_
            refine va_get (D := D) (ci := 4) (v := .ref (am 4)) (C := RX5) (T := TX5) (N := 21) hx hb hts (iX5) hown hK hP 0 rfl rfl 5 (by decide) (hts _ (List.mem_cons_of_mem _ wt_605)) (fun _ h9 => h9) rfl dX5_next_39 ?_
            refine lv_iconst (v := nI (0)) hx hb dX5_next_42 (by decide) ?_
            refine n_iald hx hb hK hP 2 (f := g 4) rfl (by omega) dX5_next_43 ?_
            refine n_tope (show nI (g 4 0) = nI (n 5) from congrArg nI (m4)) ?_
            refine n_icmp_ge (tgt := 84) hx hb dX5_next_44 (by decide) (by omega) (by omega) (fun c_44 => ?_) (fun c_44 => ?_)
            · refine lv_iload_n hx hb dX5_next_84 rfl (lv_at hl 1 rfl) ?_
              refine n_if_ne (tgt := 93) hx hb dX5_next_85 (by decide) (by omega) (fun c_85 => ?_) (fun c_85 => ?_)
              · refine lv_iload hx hb dX5_next_93 (lv_at hl 4 rfl) ?_
                exact ro_iret hx hb hr hlocks hS dX5_next_95 (by simp only [spNext, e_i, e_w, Option.elim]; rw [hu, show n 5 - t = 0 by omega, show w = 1 by omega]; rfl)
              · refine lv_iload hx hb dX5_next_88 (lv_at hl 3 rfl) ?_
                refine lv_goto (tgt := 95) hx hb dX5_next_90 (by decide) ?_
                exact ro_iret hx hb hr hlocks hS dX5_next_95 (by simp only [spNext, e_i, e_w, Option.elim]; rw [hu, show n 5 - t = 0 by omega, c_85]; rfl)
            · refine lv_aload_n hx hb dX5_next_47 rfl (lv_at hl 0 rfl) ?_
              refine lv_lload_n hx hb dX5_next_48 rfl (lv_at hl 2 rfl) ?_
              refine lv_iload hx hb dX5_next_49 (lv_at hl 5 rfl) ?_
              refine ro_i (roV_run (As := [.long (seI (loP (canW f (n 8) i)) (hiP (canW f (n 8) i))), .int (nI t)]) (rest := []) hx hb hml hown hts Tg_M (c_X5_worst l D G _ am n f k g j tx fl hh kp tr (f 7) q (loP (canW f (n 8) i)) (hiP (canW f (n 8) i)) t (RK_of hI0 hM0) (by omega) (by omega) (by omega) (by omega)) lk_RX5_140 ⟨rfl, rfl, Nat.le_of_ble_eq_true rfl, Nat.le_of_ble_eq_true rfl⟩ hP hK [0, 3, 4, 5, 6, 7] rfl 0 4 rfl rfl rfl rfl hl rfl (Nat.le_of_ble_eq_true rfl) dX5_next_51 ⟨Nat.le_of_ble_eq_true rfl, Nat.le_of_ble_eq_true rfl⟩) hS hA (fun locs hS => ?_)
              refine lv_istore (lv' := [(8, .int (nI (lw f k (loP (canW f (n 8) i)) (hiP (canW f (n 8) i)) t))), (0, .ref (am 0)), (2, .int (nI w)), (3, .long (seI (loP (canW f (n 8) i)) (hiP (canW f (n 8) i)))), (5, .int (-9)), (6, .int (-9)), (7, .int (nI t))]) hx hb dX5_next_54 hl (by decide) rfl (fun ls hl => ?_)
              refine lv_iload hx hb dX5_next_56 (lv_at hl 4 rfl) ?_
              refine lv_bipush (v := (-9)) hx hb dX5_next_58 (by decide) ?_
              refine lv_icmp_eq (tgt := 70) hx hb dX5_next_60 (by decide) (fun c_60 => ?_) (fun c_60 => ?_)
              · refine lv_iload hx hb dX5_next_70 (lv_at hl 6 rfl) ?_
                refine lv_istore (lv' := [(5, .int (nI t)), (8, .int (nI (lw f k (loP (canW f (n 8) i)) (hiP (canW f (n 8) i)) t))), (0, .ref (am 0)), (2, .int (nI w)), (3, .long (seI (loP (canW f (n 8) i)) (hiP (canW f (n 8) i)))), (6, .int (-9)), (7, .int (nI t))]) hx hb dX5_next_72 hl (by decide) rfl (fun ls hl => ?_)
                refine lv_iload hx hb dX5_next_74 (lv_at hl 1 rfl) ?_
                refine lv_istore (lv' := [(6, .int (nI (lw f k (loP (canW f (n 8) i)) (hiP (canW f (n 8) i)) t))), (5, .int (nI t)), (8, .int (nI (lw f k (loP (canW f (n 8) i)) (hiP (canW f (n 8) i)) t))), (0, .ref (am 0)), (2, .int (nI w)), (3, .long (seI (loP (canW f (n 8) i)) (hiP (canW f (n 8) i)))), (7, .int (nI t))]) hx hb dX5_next_76 hl (by decide) rfl (fun ls hl => ?_)
                refine lv_iinc (v := nI (t + 1)) (lv' := [(7, .int (nI (t + 1))), (6, .int (nI (lw f k (loP (canW f (n 8) i)) (hiP (canW f (n 8) i)) t))), (5, .int (nI t)), (8, .int (nI (lw f k (loP (canW f (n 8) i)) (hiP (canW f (n 8) i)) t))), (0, .ref (am 0)), (2, .int (nI w)), (3, .long (seI (loP (canW f (n 8) i)) (hiP (canW f (n 8) i))))]) hx hb dX5_next_78 hl (k := 6) rfl (nI_inc _ _) (by decide) rfl (fun ls hl => ?_)
                refine lv_goto (tgt := 36) hx hb dX5_next_81 (by decide) ?_
                exact ih_2 (t + 1) (some (t, lw f k (loP (canW f (n 8) i)) (hiP (canW f (n 8) i)) t)) (by omega) (⟨by omega, lwS_le _ _ (by omega) _ _ _ (by omega)⟩) (by rw [hu, show n 5 - t = (n 5 - (t + 1)) + 1 by omega, nxS]) (by omega) locs hS _ (lv_sub hl [4, 5, 6, 2, 1, 0] rfl)
              · exact absurd rfl c_60
          · have hl : lv_has ls 9 [(0, .ref (am 0)), (2, .int (nI w)), (3, .long (seI (loP (canW f (n 8) i)) (hiP (canW f (n 8) i)))), (5, .int (nI bt)), (6, .int (nI bf)), (7, .int (nI t))] := hl
            refine lv_iload hx hb dX5_next_36 (lv_at hl 5 rfl) ?_
            refine lv_aload_n hx hb dX5_next_38 rfl (lv_at hl 0 rfl) ?_
            refine va_get (D := D) (ci := 4) (v := .ref (am 4)) (C := RX5) (T := TX5) (N := 21) hx hb hts (iX5) hown hK hP 0 rfl rfl 5 (by decide) (hts _ (List.mem_cons_of_mem _ wt_605)) (fun _ h9 => h9) rfl dX5_next_39 ?_
            refine lv_iconst (v := nI (0)) hx hb dX5_next_42 (by decide) ?_
            refine n_iald hx hb hK hP 2 (f := g 4) rfl (by omega) dX5_next_43 ?_
            refine n_tope (show nI (g 4 0) = nI (n 5) from congrArg nI (m4)) ?_
            refine n_icmp_ge (tgt := 84) hx hb dX5_next_44 (by decide) (by omega) (by omega) (fun c_44 => ?_) (fun c_44 => ?_)
            · refine lv_iload_n hx hb dX5_next_84 rfl (lv_at hl 1 rfl) ?_
              refine n_if_ne (tgt := 93) hx hb dX5_next_85 (by decide) (by omega) (fun c_85 => ?_) (fun c_85 => ?_)
              · refine lv_iload hx hb dX5_next_93 (lv_at hl 4 rfl) ?_
                exact ro_iret hx hb hr hlocks hS dX5_next_95 (by simp only [spNext, e_i, e_w, Option.elim]; rw [hu, show n 5 - t = 0 by omega, show w = 1 by omega]; rfl)
              · refine lv_iload hx hb dX5_next_88 (lv_at hl 3 rfl) ?_
                refine lv_goto (tgt := 95) hx hb dX5_next_90 (by decide) ?_
                exact ro_iret hx hb hr hlocks hS dX5_next_95 (by simp only [spNext, e_i, e_w, Option.elim]; rw [hu, show n 5 - t = 0 by omega, c_85]; rfl)
            · refine lv_aload_n hx hb dX5_next_47 rfl (lv_at hl 0 rfl) ?_
              refine lv_lload_n hx hb dX5_next_48 rfl (lv_at hl 2 rfl) ?_
              refine lv_iload hx hb dX5_next_49 (lv_at hl 5 rfl) ?_
              refine ro_i (roV_run (As := [.long (seI (loP (canW f (n 8) i)) (hiP (canW f (n 8) i))), .int (nI t)]) (rest := []) hx hb hml hown hts Tg_M (c_X5_worst l D G _ am n f k g j tx fl hh kp tr (f 7) q (loP (canW f (n 8) i)) (hiP (canW f (n 8) i)) t (RK_of hI0 hM0) (by omega) (by omega) (by omega) (by omega)) lk_RX5_140 ⟨rfl, rfl, Nat.le_of_ble_eq_true rfl, Nat.le_of_ble_eq_true rfl⟩ hP hK [0, 3, 4, 5, 6, 7] rfl 0 4 rfl rfl rfl rfl hl rfl (Nat.le_of_ble_eq_true rfl) dX5_next_51 ⟨Nat.le_of_ble_eq_true rfl, Nat.le_of_ble_eq_true rfl⟩) hS hA (fun locs hS => ?_)
              refine lv_istore (lv' := [(8, .int (nI (lw f k (loP (canW f (n 8) i)) (hiP (canW f (n 8) i)) t))), (0, .ref (am 0)), (2, .int (nI w)), (3, .long (seI (loP (canW f (n 8) i)) (hiP (canW f (n 8) i)))), (5, .int (nI bt)), (6, .int (nI bf)), (7, .int (nI t))]) hx hb dX5_next_54 hl (by decide) rfl (fun ls hl => ?_)
              refine lv_iload hx hb dX5_next_56 (lv_at hl 4 rfl) ?_
              refine lv_bipush (v := (-9)) hx hb dX5_next_58 (by decide) ?_
              refine lv_icmp_eq (tgt := 70) hx hb dX5_next_60 (by decide) (fun c_60 => ?_) (fun c_60 => ?_)
              · exact absurd c_60 (nI_ne9 (by omega))
              · have ho := ho
                have hg : lw f k (loP (canW f (n 8) i)) (hiP (canW f (n 8) i)) t ≤ 61 := lwS_le _ _ (by omega) _ _ _ (by omega)
                refine lv_iload hx hb dX5_next_63 (lv_at hl 0 rfl) ?_
                refine lv_iload hx hb dX5_next_65 (lv_at hl 5 rfl) ?_
                refine n_icmp_ge (tgt := 78) hx hb dX5_next_67 (by decide) (by omega) (by omega) (fun c_67 => ?_) (fun c_67 => ?_)
                · refine lv_iinc (v := nI (t + 1)) (lv' := [(7, .int (nI (t + 1))), (8, .int (nI (lw f k (loP (canW f (n 8) i)) (hiP (canW f (n 8) i)) t))), (0, .ref (am 0)), (2, .int (nI w)), (3, .long (seI (loP (canW f (n 8) i)) (hiP (canW f (n 8) i)))), (5, .int (nI bt)), (6, .int (nI bf))]) hx hb dX5_next_78 hl (k := 6) rfl (nI_inc _ _) (by decide) rfl (fun ls hl => ?_)
                  refine lv_goto (tgt := 36) hx hb dX5_next_81 (by decide) ?_
                  exact ih_2 (t + 1) (some (bt, bf)) (by omega) (ho) (by rw [hu, show n 5 - t = (n 5 - (t + 1)) + 1 by omega, nxS]; simp only [if_neg (Nat.not_lt.mpr c_67)]) (by omega) locs hS _ (lv_sub hl [2, 3, 4, 5, 6, 0] rfl)
                · refine lv_iload hx hb dX5_next_70 (lv_at hl 6 rfl) ?_
                  refine lv_istore (lv' := [(5, .int (nI t)), (8, .int (nI (lw f k (loP (canW f (n 8) i)) (hiP (canW f (n 8) i)) t))), (0, .ref (am 0)), (2, .int (nI w)), (3, .long (seI (loP (canW f (n 8) i)) (hiP (canW f (n 8) i)))), (6, .int (nI bf)), (7, .int (nI t))]) hx hb dX5_next_72 hl (by decide) rfl (fun ls hl => ?_)
                  refine lv_iload hx hb dX5_next_74 (lv_at hl 1 rfl) ?_
                  refine lv_istore (lv' := [(6, .int (nI (lw f k (loP (canW f (n 8) i)) (hiP (canW f (n 8) i)) t))), (5, .int (nI t)), (8, .int (nI (lw f k (loP (canW f (n 8) i)) (hiP (canW f (n 8) i)) t))), (0, .ref (am 0)), (2, .int (nI w)), (3, .long (seI (loP (canW f (n 8) i)) (hiP (canW f (n 8) i)))), (7, .int (nI t))]) hx hb dX5_next_76 hl (by decide) rfl (fun ls hl => ?_)
                  refine lv_iinc (v := nI (t + 1)) (lv' := [(7, .int (nI (t + 1))), (6, .int (nI (lw f k (loP (canW f (n 8) i)) (hiP (canW f (n 8) i)) t))), (5, .int (nI t)), (8, .int (nI (lw f k (loP (canW f (n 8) i)) (hiP (canW f (n 8) i)) t))), (0, .ref (am 0)), (2, .int (nI w)), (3, .long (seI (loP (canW f (n 8) i)) (hiP (canW f (n 8) i))))]) hx hb dX5_next_78 hl (k := 6) rfl (nI_inc _ _) (by decide) rfl (fun ls hl => ?_)
                  refine lv_goto (tgt := 36) hx hb dX5_next_81 (by decide) ?_
                  exact ih_2 (t + 1) (some (t, lw f k (loP (canW f (n 8) i)) (hiP (canW f (n 8) i)) t)) (by omega) (⟨by omega, lwS_le _ _ (by omega) _ _ _ (by omega)⟩) (by rw [hu, show n 5 - t = (n 5 - (t + 1)) + 1 by omega, nxS]; simp only [if_pos c_67]) (by omega) locs hS _ (lv_sub hl [4, 5, 6, 2, 1, 0] rfl)
      exact loop_1 (n 5 - 0 + 1) (0) (none) (by omega) (trivial) (rfl) (Nat.lt_succ_self _) locs hS _ (lv_sub hl [4, 6, 3, 2, 1, 0] rfl)
    · have e_w := ir_no c_14
      refine lv_iconst (v := (-1)) hx hb dX5_next_17 (by decide) ?_
      exact ro_iret hx hb hr hlocks hS dX5_next_18 (by simp only [spNext, e_i, e_w, Option.elim])

set_option maxHeartbeats 4000000 in
set_option maxRecDepth 100000 in
theorem c_X5_enough (l : Launch) (D : va_G) (G : ClassId × ClassId × ClassId) (H0 : Heap) (am n : Nat → Nat) (f : Nat → Nat → Nat) (k : Nat → Nat) (g : Nat → Nat → Nat) (j : Nat → Nat) (tx : Nat → Int32) (fl : Int32) (hh : Bool) (kp : Nat → Bool) (tr : Int64) (q : Nat) (a a2 : Int32) (hI : XI n f k q) (hM : RQ n f k g) : Met l yX5_enough (wM yX5_enough cX5_enough 5 (some .int)) (rmD 9) (wP D G [.ref (am 0), .int (a), .int (a2)] [(am 0, .inr (4, [.long (tr), .ref (am 1), .int (nI (j 0)), .ref (am 2), .ref (am 3), .ref (am 4), .ref (am 5), .ref (am 6), .ref (am 7), .ref (am 8), .ref (am 9), .int (nI (j 1)), .int (nI (j 2)), .int (nI (j 3)), .int (nI (j 4)), .int (fl), .int (bI (hh)), .ref (am 10), .ref (am 11), .ref (am 12), .int (nI (j 5))])), (am 2, .inl (G.1, 2, .inl (nF (g 2)))), (am 4, .inl (G.1, 2, .inl (nF (g 4)))), (am 5, .inl (G.1, 12, .inl (nF (g 5)))), (am 6, .inl (G.1, 12, .inl (nF (g 6)))), (am 7, .inl (G.1, 12, .inl (nF (g 7)))), (am 8, .inl (G.1, 12, .inl (nF (g 8)))), (am 10, .inl (G.1, 240, .inl (nF (g 10))))] H0) (wQi (S := Unit) D (fun r _ => r = spEnough n f k a a2) [(am 0, .inr (4, [.long (tr), .ref (am 1), .int (nI (j 0)), .ref (am 2), .ref (am 3), .ref (am 4), .ref (am 5), .ref (am 6), .ref (am 7), .ref (am 8), .ref (am 9), .int (nI (j 1)), .int (nI (j 2)), .int (nI (j 3)), .int (nI (j 4)), .int (fl), .int (bI (hh)), .ref (am 10), .ref (am 11), .ref (am 12), .int (nI (j 5))])), (am 2, .inl (G.1, 2, .inl (nF (g 2)))), (am 4, .inl (G.1, 2, .inl (nF (g 4)))), (am 5, .inl (G.1, 12, .inl (nF (g 5)))), (am 6, .inl (G.1, 12, .inl (nF (g 6)))), (am 7, .inl (G.1, 12, .inl (nF (g 7)))), (am 8, .inl (G.1, 12, .inl (nF (g 8)))), (am 10, .inl (G.1, 240, .inl (nF (g 10))))] (fun _ => [(am 0, .inr (4, [.long (tr), .ref (am 1), .int (nI (j 0)), .ref (am 2), .ref (am 3), .ref (am 4), .ref (am 5), .ref (am 6), .ref (am 7), .ref (am 8), .ref (am 9), .int (nI (j 1)), .int (nI (j 2)), .int (nI (j 3)), .int (nI (j 4)), .int (fl), .int (bI (hh)), .ref (am 10), .ref (am 11), .ref (am 12), .int (nI (j 5))])), (am 2, .inl (G.1, 2, .inl (nF (g 2)))), (am 4, .inl (G.1, 2, .inl (nF (g 4)))), (am 5, .inl (G.1, 12, .inl (nF (g 5)))), (am 6, .inl (G.1, 12, .inl (nF (g 6)))), (am 7, .inl (G.1, 12, .inl (nF (g 7)))), (am 8, .inl (G.1, 12, .inl (nF (g 8)))), (am 10, .inl (G.1, 240, .inl (nF (g 10))))]) H0) 0 0 (va_A [(am 0, .inr (4, [.long (tr), .ref (am 1), .int (nI (j 0)), .ref (am 2), .ref (am 3), .ref (am 4), .ref (am 5), .ref (am 6), .ref (am 7), .ref (am 8), .ref (am 9), .int (nI (j 1)), .int (nI (j 2)), .int (nI (j 3)), .int (nI (j 4)), .int (fl), .int (bI (hh)), .ref (am 10), .ref (am 11), .ref (am 12), .int (nI (j 5))])), (am 2, .inl (G.1, 2, .inl (nF (g 2)))), (am 4, .inl (G.1, 2, .inl (nF (g 4)))), (am 5, .inl (G.1, 12, .inl (nF (g 5)))), (am 6, .inl (G.1, 12, .inl (nF (g 6)))), (am 7, .inl (G.1, 12, .inl (nF (g 7)))), (am 8, .inl (G.1, 12, .inl (nF (g 8)))), (am 10, .inl (G.1, 240, .inl (nF (g 10))))] H0.size) := by
  refine wr_start (Qc := fun H0 => (wQi (S := Unit) D (fun r _ => r = spEnough n f k a a2) [(am 0, .inr (4, [.long (tr), .ref (am 1), .int (nI (j 0)), .ref (am 2), .ref (am 3), .ref (am 4), .ref (am 5), .ref (am 6), .ref (am 7), .ref (am 8), .ref (am 9), .int (nI (j 1)), .int (nI (j 2)), .int (nI (j 3)), .int (nI (j 4)), .int (fl), .int (bI (hh)), .ref (am 10), .ref (am 11), .ref (am 12), .int (nI (j 5))])), (am 2, .inl (G.1, 2, .inl (nF (g 2)))), (am 4, .inl (G.1, 2, .inl (nF (g 4)))), (am 5, .inl (G.1, 12, .inl (nF (g 5)))), (am 6, .inl (G.1, 12, .inl (nF (g 6)))), (am 7, .inl (G.1, 12, .inl (nF (g 7)))), (am 8, .inl (G.1, 12, .inl (nF (g 8)))), (am 10, .inl (G.1, 240, .inl (nF (g 10))))] (fun _ => [(am 0, .inr (4, [.long (tr), .ref (am 1), .int (nI (j 0)), .ref (am 2), .ref (am 3), .ref (am 4), .ref (am 5), .ref (am 6), .ref (am 7), .ref (am 8), .ref (am 9), .int (nI (j 1)), .int (nI (j 2)), .int (nI (j 3)), .int (nI (j 4)), .int (fl), .int (bI (hh)), .ref (am 10), .ref (am 11), .ref (am 12), .int (nI (j 5))])), (am 2, .inl (G.1, 2, .inl (nF (g 2)))), (am 4, .inl (G.1, 2, .inl (nF (g 4)))), (am 5, .inl (G.1, 12, .inl (nF (g 5)))), (am 6, .inl (G.1, 12, .inl (nF (g 6)))), (am 7, .inl (G.1, 12, .inl (nF (g 7)))), (am 8, .inl (G.1, 12, .inl (nF (g 8)))), (am 10, .inl (G.1, 240, .inl (nF (g 10))))]) H0)) (by decide) (Nat.le_of_ble_eq_true rfl) ?_
  intro p e s m args below meth c hx hb hr hts hown hlocks hml hK A hAe hA hH0 ls hl H locs hP hD hS
  have hl : lv_has ls 5 [(0, .ref (am 0)), (1, .int (a)), (2, .int (a2))] := hl
  have hI0 := hI
  have hM0 := hM
  obtain ⟨i4, i5, i6, iq, iw, il, i7, i8, ih9, ik, iF⟩ := hI
  obtain ⟨m2, m3, m4, m5, m0, m6, m7, m8⟩ := hM
  refine lv_aload_n hx hb dX5_enough_0 rfl (lv_at hl 0 rfl) ?_
  refine lv_iload_n hx hb dX5_enough_1 rfl (lv_at hl 1 rfl) ?_
  refine ro_i (roV_run (As := [.int (a)]) (rest := []) hx hb hml hown hts Tg_M (c_X5_isLoad l D G _ am n f k g j tx fl hh kp tr q (a) hI0 hM0) lk_RX5_105 ⟨rfl, rfl, Nat.le_of_ble_eq_true rfl, Nat.le_of_ble_eq_true rfl⟩ hP hK [0, 1] rfl 0 4 rfl rfl rfl rfl hl rfl (Nat.le_of_ble_eq_true rfl) dX5_enough_2 ⟨Nat.le_of_ble_eq_true rfl, Nat.le_of_ble_eq_true rfl⟩) hS hA (fun locs hS => ?_)
  refine b_if_eq (tgt := 18) hx hb dX5_enough_5 (by decide) (fun c_5 => ?_) (fun c_5 => ?_)
  · have e_i := ix_no c_5
    refine lv_iconst (v := (-1)) hx hb dX5_enough_18 (by decide) ?_
    exact wr_iret (()) hx hb hr hlocks hAe hS dX5_enough_19 (hP) (by simp only [spEnough, e_i, Option.elim])
  · obtain ⟨i, h_i, rfl⟩ := hasB_N (by omega) c_5
    have e_i := ix_yes h_i (show n 4 < 2 ^ 31 by omega)
    refine lv_iload_n hx hb dX5_enough_8 rfl (lv_at hl 2 rfl) ?_
    refine lv_iconst (v := nI (1)) hx hb dX5_enough_9 (by decide) ?_
    refine lv_bipush (v := nI (61)) hx hb dX5_enough_10 (by decide) ?_
    refine ro_i (roS_run (As := [.int (a2), .int (nI 1), .int (nI 61)]) (rest := []) hx hb hml hown hts Tg_M (c_X5_in l D G _ (a2) (nI (1)) (nI (61))) lk_RX5_52 ⟨rfl, rfl, Nat.le_of_ble_eq_true rfl, Nat.le_of_ble_eq_true rfl⟩ hP hK [] rfl rfl hl rfl (Nat.le_of_ble_eq_true rfl) dX5_enough_12 ⟨Nat.le_of_ble_eq_true rfl, Nat.le_of_ble_eq_true rfl⟩) hS hA (fun locs hS => ?_)
    refine b_if_ne (tgt := 20) hx hb dX5_enough_15 (by decide) (fun c_15 => ?_) (fun c_15 => ?_)
    · obtain ⟨mm, g_mm, h_mm, rfl⟩ := inR_N (by decide) (by decide) c_15
      have e_mm := ir_yes g_mm h_mm (by decide)
      refine lv_aload_n hx hb dX5_enough_20 rfl (lv_at hl 0 rfl) ?_
      refine lv_iload_n hx hb dX5_enough_21 rfl (lv_at hl 1 rfl) ?_
      refine ro_l (roV_run (As := [.int (nI i)]) (rest := []) hx hb hml hown hts Tg_M (c_X5_canBeOf l D G _ am n f k g j tx fl hh kp tr q i hI0 hM0 (by omega)) lk_RX5_120 ⟨rfl, rfl, Nat.le_of_ble_eq_true rfl, Nat.le_of_ble_eq_true rfl⟩ hP hK [0, 3, 4, 5, 6, 7] rfl 0 4 rfl rfl rfl rfl hl rfl (Nat.le_of_ble_eq_true rfl) dX5_enough_22 ⟨Nat.le_of_ble_eq_true rfl, Nat.le_of_ble_eq_true rfl⟩) hS hA (fun locs hS => ?_)
      refine n_topl (canW_iv hI0 h_i) ?_
      have z_i := lo_hi hI0 h_i
      have y_i := hiP_le (canW f (n 8) i)
      refine lv_lstore_n (lv' := [(3, .long (seI (loP (canW f (n 8) i)) (hiP (canW f (n 8) i)))), (0, .ref (am 0)), (1, .int (nI i)), (2, .int (nI mm))]) hx hb dX5_enough_25 rfl hl (by decide) rfl (fun ls hl => ?_)
      refine lv_lload_n hx hb dX5_enough_26 rfl (lv_at hl 0 rfl) ?_
      refine ro_i (roS_run (As := [.long (seI (loP (canW f (n 8) i)) (hiP (canW f (n 8) i)))]) (rest := []) hx hb hml hown hts Tg_M (c_X5_manyOf l D G _ (loP (canW f (n 8) i)) (hiP (canW f (n 8) i)) (by omega) (by omega)) lk_RX5_124 ⟨rfl, rfl, Nat.le_of_ble_eq_true rfl, Nat.le_of_ble_eq_true rfl⟩ hP hK [] rfl rfl hl rfl (Nat.le_of_ble_eq_true rfl) dX5_enough_27 ⟨Nat.le_of_ble_eq_true rfl, Nat.le_of_ble_eq_true rfl⟩) hS hA (fun locs hS => ?_)
      refine lv_iload_n hx hb dX5_enough_30 rfl (lv_at hl 3 rfl) ?_
      refine n_icmp_gt (tgt := 38) hx hb dX5_enough_31 (by decide) (by omega) (by omega) (fun c_31 => ?_) (fun c_31 => ?_)
      · refine lv_aload_n hx hb dX5_enough_38 rfl (lv_at hl 1 rfl) ?_
        refine lv_lload_n hx hb dX5_enough_39 rfl (lv_at hl 0 rfl) ?_
        refine lv_iload_n hx hb dX5_enough_40 rfl (lv_at hl 3 rfl) ?_
        refine ro_i (roV_run (As := [.long (seI (loP (canW f (n 8) i)) (hiP (canW f (n 8) i))), .int (nI mm)]) (rest := []) hx hb hml hown hts Tg_M (c_X5_isEnoughByOne l D G _ am n f k g j tx fl hh kp tr (f 7) q (loP (canW f (n 8) i)) (hiP (canW f (n 8) i)) mm (RK_of hI0 hM0) (by omega) (by omega) (by omega) (by omega)) lk_RX5_144 ⟨rfl, rfl, Nat.le_of_ble_eq_true rfl, Nat.le_of_ble_eq_true rfl⟩ hP hK [0, 2, 3, 4, 5, 6, 7] rfl 0 4 rfl rfl rfl rfl hl rfl (Nat.le_of_ble_eq_true rfl) dX5_enough_41 ⟨Nat.le_of_ble_eq_true rfl, Nat.le_of_ble_eq_true rfl⟩) hS hA (fun locs hS => ?_)
        refine b_if_eq (tgt := 51) hx hb dX5_enough_44 (by decide) (fun c_44 => ?_) (fun c_44 => ?_)
        · refine lv_aload_n hx hb dX5_enough_51 rfl (lv_at hl 1 rfl) ?_
          refine lv_lload_n hx hb dX5_enough_52 rfl (lv_at hl 0 rfl) ?_
          refine lv_iload_n hx hb dX5_enough_53 rfl (lv_at hl 3 rfl) ?_
          refine wr_i (wrV_run (As := [.long (seI (loP (canW f (n 8) i)) (hiP (canW f (n 8) i))), .int (nI mm)]) (rest := []) hx hb hml hown hts Tg_M (c_X5_isEnoughByTwo l D G _ am n f k g j tx fl hh kp tr (f 7) q (loP (canW f (n 8) i)) (hiP (canW f (n 8) i)) mm (RK_of hI0 hM0) (by omega) (by omega) (by omega) (by omega)) lk_RX5_148 ⟨rfl, rfl, Nat.le_of_ble_eq_true rfl, Nat.le_of_ble_eq_true rfl⟩ hP hD hK [0, 2, 3, 4, 5, 6, 7] rfl rfl 0 4 rfl rfl rfl rfl hl rfl (Nat.le_of_ble_eq_true rfl) dX5_enough_54 ⟨Nat.le_of_ble_eq_true rfl, Nat.le_of_ble_eq_true rfl⟩) hP hD [0, 2, 3, 4, 5, 6, 7] rfl (fun _ => rfl) hS hA (fun r_ u_ H locs hpp hP hD hS => ?_)
          obtain rfl := hpp
          have hP : va_P D cls5 [(am 0, .inr (4, [.long (tr), .ref (am 1), .int (nI (j 0)), .ref (am 2), .ref (am 3), .ref (am 4), .ref (am 5), .ref (am 6), .ref (am 7), .ref (am 8), .ref (am 9), .int (nI (j 1)), .int (nI (j 2)), .int (nI (j 3)), .int (nI (j 4)), .int (fl), .int (bI (hh)), .ref (am 10), .ref (am 11), .ref (am 12), .int (nI (j 5))])), (am 2, .inl (G.1, 2, .inl (nF (g 2)))), (am 4, .inl (G.1, 2, .inl (nF (g 4)))), (am 5, .inl (G.1, 12, .inl (nF (g 5)))), (am 6, .inl (G.1, 12, .inl (nF (g 6)))), (am 7, .inl (G.1, 12, .inl (nF (g 7)))), (am 8, .inl (G.1, 12, .inl (nF (g 8)))), (am 10, .inl (G.1, 240, .inl (nF (g 10))))] H := hP
          have hD : va_D A [(am 0, .inr (4, [.long (tr), .ref (am 1), .int (nI (j 0)), .ref (am 2), .ref (am 3), .ref (am 4), .ref (am 5), .ref (am 6), .ref (am 7), .ref (am 8), .ref (am 9), .int (nI (j 1)), .int (nI (j 2)), .int (nI (j 3)), .int (nI (j 4)), .int (fl), .int (bI (hh)), .ref (am 10), .ref (am 11), .ref (am 12), .int (nI (j 5))])), (am 2, .inl (G.1, 2, .inl (nF (g 2)))), (am 4, .inl (G.1, 2, .inl (nF (g 4)))), (am 5, .inl (G.1, 12, .inl (nF (g 5)))), (am 6, .inl (G.1, 12, .inl (nF (g 6)))), (am 7, .inl (G.1, 12, .inl (nF (g 7)))), (am 8, .inl (G.1, 12, .inl (nF (g 8)))), (am 10, .inl (G.1, 240, .inl (nF (g 10))))] := hD
          refine b_if_eq (tgt := 64) hx hb dX5_enough_57 (by decide) (fun c_57 => ?_) (fun c_57 => ?_)
          · refine lv_aload_n hx hb dX5_enough_64 rfl (lv_at hl 1 rfl) ?_
            refine lv_lload_n hx hb dX5_enough_65 rfl (lv_at hl 0 rfl) ?_
            refine lv_iload_n hx hb dX5_enough_66 rfl (lv_at hl 3 rfl) ?_
            refine wr_i (wrV_run (As := [.long (seI (loP (canW f (n 8) i)) (hiP (canW f (n 8) i))), .int (nI mm)]) (rest := []) hx hb hml hown hts Tg_M (c_X5_isEnoughByThree l D G _ am n f k g j tx fl hh kp tr (f 7) q (loP (canW f (n 8) i)) (hiP (canW f (n 8) i)) mm (RK_of hI0 hM0) (by omega) (by omega) (by omega) (by omega)) lk_RX5_151 ⟨rfl, rfl, Nat.le_of_ble_eq_true rfl, Nat.le_of_ble_eq_true rfl⟩ hP hD hK [0, 2, 3, 4, 5, 6, 7] rfl rfl 0 4 rfl rfl rfl rfl hl rfl (Nat.le_of_ble_eq_true rfl) dX5_enough_67 ⟨Nat.le_of_ble_eq_true rfl, Nat.le_of_ble_eq_true rfl⟩) hP hD [0, 2, 3, 4, 5, 6, 7] rfl (fun _ => rfl) hS hA (fun r_ u_ H locs hpp hP hD hS => ?_)
            obtain rfl := hpp
            have hP : va_P D cls5 [(am 0, .inr (4, [.long (tr), .ref (am 1), .int (nI (j 0)), .ref (am 2), .ref (am 3), .ref (am 4), .ref (am 5), .ref (am 6), .ref (am 7), .ref (am 8), .ref (am 9), .int (nI (j 1)), .int (nI (j 2)), .int (nI (j 3)), .int (nI (j 4)), .int (fl), .int (bI (hh)), .ref (am 10), .ref (am 11), .ref (am 12), .int (nI (j 5))])), (am 2, .inl (G.1, 2, .inl (nF (g 2)))), (am 4, .inl (G.1, 2, .inl (nF (g 4)))), (am 5, .inl (G.1, 12, .inl (nF (g 5)))), (am 6, .inl (G.1, 12, .inl (nF (g 6)))), (am 7, .inl (G.1, 12, .inl (nF (g 7)))), (am 8, .inl (G.1, 12, .inl (nF (g 8)))), (am 10, .inl (G.1, 240, .inl (nF (g 10))))] H := hP
            have hD : va_D A [(am 0, .inr (4, [.long (tr), .ref (am 1), .int (nI (j 0)), .ref (am 2), .ref (am 3), .ref (am 4), .ref (am 5), .ref (am 6), .ref (am 7), .ref (am 8), .ref (am 9), .int (nI (j 1)), .int (nI (j 2)), .int (nI (j 3)), .int (nI (j 4)), .int (fl), .int (bI (hh)), .ref (am 10), .ref (am 11), .ref (am 12), .int (nI (j 5))])), (am 2, .inl (G.1, 2, .inl (nF (g 2)))), (am 4, .inl (G.1, 2, .inl (nF (g 4)))), (am 5, .inl (G.1, 12, .inl (nF (g 5)))), (am 6, .inl (G.1, 12, .inl (nF (g 6)))), (am 7, .inl (G.1, 12, .inl (nF (g 7)))), (am 8, .inl (G.1, 12, .inl (nF (g 8)))), (am 10, .inl (G.1, 240, .inl (nF (g 10))))] := hD
            refine b_if_eq (tgt := 77) hx hb dX5_enough_70 (by decide) (fun c_70 => ?_) (fun c_70 => ?_)
            · refine lv_bipush (v := (-9)) hx hb dX5_enough_77 (by decide) ?_
              exact wr_iret (()) hx hb hr hlocks hAe hS dX5_enough_79 (hP) (by simp only [spEnough, e_i, e_mm, Option.elim]; rw [if_neg (by rw [show enS (n 5) (cS f k) mm 0 (f 7) (loP (canW f (n 8) i)) (hiP (canW f (n 8) i)) = false from decide_eq_false (by omega)]; decide), if_neg (by rw [c_44]; decide), if_neg (by rw [c_57]; decide), if_neg (by rw [c_70]; decide)])
            · refine lv_iconst (v := nI (3)) hx hb dX5_enough_73 (by decide) ?_
              refine lv_goto (tgt := 79) hx hb dX5_enough_74 (by decide) ?_
              exact wr_iret (()) hx hb hr hlocks hAe hS dX5_enough_79 (hP) (by simp only [spEnough, e_i, e_mm, Option.elim]; rw [if_neg (by rw [show enS (n 5) (cS f k) mm 0 (f 7) (loP (canW f (n 8) i)) (hiP (canW f (n 8) i)) = false from decide_eq_false (by omega)]; decide), if_neg (by rw [c_44]; decide), if_neg (by rw [c_57]; decide), if_pos c_70]; rfl)
          · refine lv_iconst (v := nI (2)) hx hb dX5_enough_60 (by decide) ?_
            refine lv_goto (tgt := 79) hx hb dX5_enough_61 (by decide) ?_
            exact wr_iret (()) hx hb hr hlocks hAe hS dX5_enough_79 (hP) (by simp only [spEnough, e_i, e_mm, Option.elim]; rw [if_neg (by rw [show enS (n 5) (cS f k) mm 0 (f 7) (loP (canW f (n 8) i)) (hiP (canW f (n 8) i)) = false from decide_eq_false (by omega)]; decide), if_neg (by rw [c_44]; decide), if_pos c_57]; rfl)
        · refine lv_iconst (v := nI (1)) hx hb dX5_enough_47 (by decide) ?_
          refine lv_goto (tgt := 79) hx hb dX5_enough_48 (by decide) ?_
          exact wr_iret (()) hx hb hr hlocks hAe hS dX5_enough_79 (hP) (by simp only [spEnough, e_i, e_mm, Option.elim]; rw [if_neg (by rw [show enS (n 5) (cS f k) mm 0 (f 7) (loP (canW f (n 8) i)) (hiP (canW f (n 8) i)) = false from decide_eq_false (by omega)]; decide), if_pos c_44]; rfl)
      · refine lv_iconst (v := nI (0)) hx hb dX5_enough_34 (by decide) ?_
        refine lv_goto (tgt := 79) hx hb dX5_enough_35 (by decide) ?_
        exact wr_iret (()) hx hb hr hlocks hAe hS dX5_enough_79 (hP) (by simp only [spEnough, e_i, e_mm, Option.elim]; rw [if_pos (show enS (n 5) (cS f k) mm 0 (f 7) (loP (canW f (n 8) i)) (hiP (canW f (n 8) i)) = true from decide_eq_true (by omega))]; rfl)
    · have e_mm := ir_no c_15
      refine lv_iconst (v := (-1)) hx hb dX5_enough_18 (by decide) ?_
      exact wr_iret (()) hx hb hr hlocks hAe hS dX5_enough_19 (hP) (by simp only [spEnough, e_i, e_mm, Option.elim])

set_option maxHeartbeats 4000000 in
set_option maxRecDepth 100000 in
theorem c_X5_isTasting (l : Launch) (D : va_G) (G : ClassId × ClassId × ClassId) (H0 : Heap) (x y z : Int32)  : Met l yX5_isTasting (wM yX5_isTasting cX5_isTasting 3 (some .boolean)) (rmD 3) (rP D G [.int (x), .int (y), .int (z)] [] H0) (rQi (bI (inR x (nI (0)) (nI (60)) && inR y (nI (0)) (nI (9)) && inR z (nI (0)) (nI (9)))) H0) 0 0 (rF H0) := by
  refine ro_start (Qc := fun H0 => (rQi (bI (inR x (nI (0)) (nI (60)) && inR y (nI (0)) (nI (9)) && inR z (nI (0)) (nI (9)))) H0)) (by decide) (Nat.le_of_ble_eq_true rfl) ?_
  intro p e s m args below meth c hx hb hr hts hown hlocks hml hP hK hA hH0 ls hl locs hS
  have hl : lv_has ls 3 [(0, .int (x)), (1, .int (y)), (2, .int (z))] := hl
  refine lv_iload_n hx hb dX5_isTasting_0 rfl (lv_at hl 0 rfl) ?_
  refine lv_iconst (v := nI (0)) hx hb dX5_isTasting_1 (by decide) ?_
  refine lv_bipush (v := nI (60)) hx hb dX5_isTasting_2 (by decide) ?_
  refine ro_i (roS_run (As := [.int (x), .int (nI 0), .int (nI 60)]) (rest := []) hx hb hml hown hts Tg_M (c_X5_in l D G _ (x) (nI (0)) (nI (60))) lk_RX5_52 ⟨rfl, rfl, Nat.le_of_ble_eq_true rfl, Nat.le_of_ble_eq_true rfl⟩ hP hK [] rfl rfl hl rfl (Nat.le_of_ble_eq_true rfl) dX5_isTasting_4 ⟨Nat.le_of_ble_eq_true rfl, Nat.le_of_ble_eq_true rfl⟩) hS hA (fun locs hS => ?_)
  refine b_if_eq (tgt := 34) hx hb dX5_isTasting_7 (by decide) (fun c_7 => ?_) (fun c_7 => ?_)
  · refine lv_iconst (v := nI (0)) hx hb dX5_isTasting_34 (by decide) ?_
    exact ro_zret hx hb hr hlocks hS dX5_isTasting_35 (rfl) (bI_of_f (by rw [c_7]; simp))
  · refine lv_iload_n hx hb dX5_isTasting_10 rfl (lv_at hl 1 rfl) ?_
    refine lv_iconst (v := nI (0)) hx hb dX5_isTasting_11 (by decide) ?_
    refine lv_bipush (v := nI (9)) hx hb dX5_isTasting_12 (by decide) ?_
    refine ro_i (roS_run (As := [.int (y), .int (nI 0), .int (nI 9)]) (rest := []) hx hb hml hown hts Tg_M (c_X5_in l D G _ (y) (nI (0)) (nI (9))) lk_RX5_52 ⟨rfl, rfl, Nat.le_of_ble_eq_true rfl, Nat.le_of_ble_eq_true rfl⟩ hP hK [] rfl rfl hl rfl (Nat.le_of_ble_eq_true rfl) dX5_isTasting_14 ⟨Nat.le_of_ble_eq_true rfl, Nat.le_of_ble_eq_true rfl⟩) hS hA (fun locs hS => ?_)
    refine b_if_eq (tgt := 34) hx hb dX5_isTasting_17 (by decide) (fun c_17 => ?_) (fun c_17 => ?_)
    · refine lv_iconst (v := nI (0)) hx hb dX5_isTasting_34 (by decide) ?_
      exact ro_zret hx hb hr hlocks hS dX5_isTasting_35 (rfl) (bI_of_f (by rw [c_17]; simp))
    · refine lv_iload_n hx hb dX5_isTasting_20 rfl (lv_at hl 2 rfl) ?_
      refine lv_iconst (v := nI (0)) hx hb dX5_isTasting_21 (by decide) ?_
      refine lv_bipush (v := nI (9)) hx hb dX5_isTasting_22 (by decide) ?_
      refine ro_i (roS_run (As := [.int (z), .int (nI 0), .int (nI 9)]) (rest := []) hx hb hml hown hts Tg_M (c_X5_in l D G _ (z) (nI (0)) (nI (9))) lk_RX5_52 ⟨rfl, rfl, Nat.le_of_ble_eq_true rfl, Nat.le_of_ble_eq_true rfl⟩ hP hK [] rfl rfl hl rfl (Nat.le_of_ble_eq_true rfl) dX5_isTasting_24 ⟨Nat.le_of_ble_eq_true rfl, Nat.le_of_ble_eq_true rfl⟩) hS hA (fun locs hS => ?_)
      refine b_if_eq (tgt := 34) hx hb dX5_isTasting_27 (by decide) (fun c_27 => ?_) (fun c_27 => ?_)
      · refine lv_iconst (v := nI (0)) hx hb dX5_isTasting_34 (by decide) ?_
        exact ro_zret hx hb hr hlocks hS dX5_isTasting_35 (rfl) (bI_of_f (by rw [c_27]; simp))
      · refine lv_iconst (v := nI (1)) hx hb dX5_isTasting_30 (by decide) ?_
        refine lv_goto (tgt := 35) hx hb dX5_isTasting_31 (by decide) ?_
        exact ro_zret hx hb hr hlocks hS dX5_isTasting_35 (rfl) (bI_of_t (by rw [c_7, c_17, c_27]; rfl))

set_option maxHeartbeats 4000000 in
set_option maxRecDepth 100000 in
theorem c_X5_aOf (l : Launch) (D : va_G) (G : ClassId × ClassId × ClassId) (H0 : Heap) (law : Nat) (hlaw : law < 3240) : Met l yX5_aOf (wM yX5_aOf cX5_aOf 1 (some .int)) (rmD 1) (rP D G [.int (nI law)] [] H0) (rQi (nI (lP law 0)) H0) 0 0 (rF H0) := by
  refine ro_start (Qc := fun H0 => (rQi (nI (lP law 0)) H0)) (by decide) (Nat.le_of_ble_eq_true rfl) ?_
  intro p e s m args below meth c hx hb hr hts hown hlocks hml hP hK hA hH0 ls hl locs hS
  have hl : lv_has ls 1 [(0, .int (nI law))] := hl
  refine lv_iload_n hx hb dX5_aOf_0 rfl (lv_at hl 0 rfl) ?_
  refine lv_sipush (v := nI (360)) hx hb dX5_aOf_1 (by decide) ?_
  refine n_idiv hx hb dX5_aOf_4 (by omega) (by omega) (by omega) ?_
  refine lv_iconst (v := nI (1)) hx hb dX5_aOf_5 (by decide) ?_
  refine n_iadd hx hb dX5_aOf_6 ?_
  exact ro_iret hx hb hr hlocks hS dX5_aOf_7 (rfl)

set_option maxHeartbeats 4000000 in
set_option maxRecDepth 100000 in
theorem c_X5_bOf (l : Launch) (D : va_G) (G : ClassId × ClassId × ClassId) (H0 : Heap) (law : Nat) (hlaw : law < 3240) : Met l yX5_bOf (wM yX5_bOf cX5_bOf 1 (some .int)) (rmD 1) (rP D G [.int (nI law)] [] H0) (rQi (nI (lP law 1)) H0) 0 0 (rF H0) := by
  refine ro_start (Qc := fun H0 => (rQi (nI (lP law 1)) H0)) (by decide) (Nat.le_of_ble_eq_true rfl) ?_
  intro p e s m args below meth c hx hb hr hts hown hlocks hml hP hK hA hH0 ls hl locs hS
  have hl : lv_has ls 1 [(0, .int (nI law))] := hl
  refine lv_iload_n hx hb dX5_bOf_0 rfl (lv_at hl 0 rfl) ?_
  refine lv_bipush (v := nI (36)) hx hb dX5_bOf_1 (by decide) ?_
  refine n_idiv hx hb dX5_bOf_3 (by omega) (by omega) (by omega) ?_
  refine lv_bipush (v := nI (10)) hx hb dX5_bOf_4 (by decide) ?_
  refine n_irem hx hb dX5_bOf_6 (by omega) (by omega) (by omega) ?_
  exact ro_iret hx hb hr hlocks hS dX5_bOf_7 (rfl)

set_option maxHeartbeats 4000000 in
set_option maxRecDepth 100000 in
theorem c_X5_dOf (l : Launch) (D : va_G) (G : ClassId × ClassId × ClassId) (H0 : Heap) (law : Nat) (hlaw : law < 3240) : Met l yX5_dOf (wM yX5_dOf cX5_dOf 1 (some .int)) (rmD 1) (rP D G [.int (nI law)] [] H0) (rQi (nI (lP law 2)) H0) 0 0 (rF H0) := by
  refine ro_start (Qc := fun H0 => (rQi (nI (lP law 2)) H0)) (by decide) (Nat.le_of_ble_eq_true rfl) ?_
  intro p e s m args below meth c hx hb hr hts hown hlocks hml hP hK hA hH0 ls hl locs hS
  have hl : lv_has ls 1 [(0, .int (nI law))] := hl
  refine lv_iload_n hx hb dX5_dOf_0 rfl (lv_at hl 0 rfl) ?_
  refine lv_iconst (v := nI (4)) hx hb dX5_dOf_1 (by decide) ?_
  refine n_idiv hx hb dX5_dOf_2 (by omega) (by omega) (by omega) ?_
  refine lv_bipush (v := nI (9)) hx hb dX5_dOf_3 (by decide) ?_
  refine n_irem hx hb dX5_dOf_5 (by omega) (by omega) (by omega) ?_
  refine lv_iconst (v := nI (1)) hx hb dX5_dOf_6 (by decide) ?_
  refine n_iadd hx hb dX5_dOf_7 ?_
  exact ro_iret hx hb hr hlocks hS dX5_dOf_8 (rfl)

set_option maxHeartbeats 4000000 in
set_option maxRecDepth 100000 in
theorem c_X5_tOf (l : Launch) (D : va_G) (G : ClassId × ClassId × ClassId) (H0 : Heap) (law : Nat) (hlaw : law < 3240) : Met l yX5_tOf (wM yX5_tOf cX5_tOf 1 (some .int)) (rmD 1) (rP D G [.int (nI law)] [] H0) (rQi (nI (lP law 3)) H0) 0 0 (rF H0) := by
  refine ro_start (Qc := fun H0 => (rQi (nI (lP law 3)) H0)) (by decide) (Nat.le_of_ble_eq_true rfl) ?_
  intro p e s m args below meth c hx hb hr hts hown hlocks hml hP hK hA hH0 ls hl locs hS
  have hl : lv_has ls 1 [(0, .int (nI law))] := hl
  refine lv_iload_n hx hb dX5_tOf_0 rfl (lv_at hl 0 rfl) ?_
  refine lv_iconst (v := nI (4)) hx hb dX5_tOf_1 (by decide) ?_
  refine n_irem hx hb dX5_tOf_2 (by omega) (by omega) (by omega) ?_
  exact ro_iret hx hb hr hlocks hS dX5_tOf_3 (rfl)

set_option maxHeartbeats 4000000 in
set_option maxRecDepth 100000 in
theorem c_X5_isAsTold (l : Launch) (D : va_G) (G : ClassId × ClassId × ClassId) (H0 : Heap) (am n : Nat → Nat) (f : Nat → Nat → Nat) (k : Nat → Nat) (g : Nat → Nat → Nat) (j : Nat → Nat) (tx : Nat → Int32) (fl : Int32) (hh : Bool) (kp : Nat → Bool) (tr : Int64) (law : Nat) (hT : TI n f) (hMT : j 5 = n 6 ∧ ∀ x, x < 4 * n 6 → g 12 x = f 6 x) (hlaw : law < 3240) : Met l yX5_isAsTold (wM yX5_isAsTold cX5_isAsTold 5 (some .boolean)) (rmD 3) (rP D G [.ref (am 0), .int (nI law)] [(am 0, .inr (4, [.long (tr), .ref (am 1), .int (nI (j 0)), .ref (am 2), .ref (am 3), .ref (am 4), .ref (am 5), .ref (am 6), .ref (am 7), .ref (am 8), .ref (am 9), .int (nI (j 1)), .int (nI (j 2)), .int (nI (j 3)), .int (nI (j 4)), .int (fl), .int (bI (hh)), .ref (am 10), .ref (am 11), .ref (am 12), .int (nI (j 5))])), (am 12, .inl (G.1, 32, .inl (nF (g 12))))] H0) (rQi (bI (tolP n f law)) H0) 0 0 (rF H0) := by
  refine ro_start (Qc := fun H0 => (rQi (bI (tolP n f law)) H0)) (by decide) (Nat.le_of_ble_eq_true rfl) ?_
  intro p e s m args below meth c hx hb hr hts hown hlocks hml hP hK hA hH0 ls hl locs hS
  have hl : lv_has ls 5 [(0, .ref (am 0)), (1, .int (nI law))] := hl
  have hT6 := hT.1
  have hj5 := hMT.1
  refine lv_iconst (v := nI (1)) hx hb dX5_isAsTold_0 (by decide) ?_
  refine n_tope (show nI (1) = bI (tolU f law 0) from bI_of_t (decide_eq_true (fun a ha => absurd ha (Nat.not_lt_zero a)))) ?_
  refine lv_istore_n (lv' := [(2, .int (bI (tolU f law 0))), (0, .ref (am 0)), (1, .int (nI law))]) hx hb dX5_isAsTold_1 rfl hl (by decide) rfl (fun ls hl => ?_)
  refine lv_iconst (v := nI (0)) hx hb dX5_isAsTold_2 (by decide) ?_
  refine lv_istore_n (lv' := [(3, .int (nI 0)), (2, .int (bI (tolU f law 0))), (0, .ref (am 0)), (1, .int (nI law))]) hx hb dX5_isAsTold_3 rfl hl (by decide) rfl (fun ls hl => ?_)
  have loop_1 : ∀ (fuel : Nat) (i : Nat), (i ≤ n 6) → (n 6 - i) < fuel → ∀ (locs : List Loc), va_S (rF s.heap) s.heap s.heap locs → ∀ (ls : Array Slot), lv_has ls 5 [(0, .ref (am 0)), (1, .int (nI law)), (2, .int (bI (tolU f law i))), (3, .int (nI i))] → W p l e (rmD 3) s m args below meth c s.heap locs 0 0 (MQ below (rQi (bI (tolP n f law)) s.heap) args s 0 0 (rF s.heap)) (F0 m 4 ls []) := by
    intro fuel
    induction fuel with
    | zero => intro i hi1 hfu; exact absurd hfu (Nat.not_lt_zero _)
    | succ fuel ih_2 =>
      intro i hi1 hfu locs hS ls hl
      refine lv_iload_n hx hb dX5_isAsTold_4 rfl (lv_at hl 3 rfl) ?_
      refine lv_aload_n hx hb dX5_isAsTold_5 rfl (lv_at hl 0 rfl) ?_
      refine va_get (D := D) (ci := 4) (v := .int (nI (j 5))) (C := RX5) (T := TX5) (N := 21) hx hb hts (iX5) hown hK hP 0 rfl rfl 20 (by decide) (hts _ (List.mem_cons_of_mem _ wt_620)) (fun _ h9 => h9) rfl dX5_isAsTold_6 ?_
      refine n_icmp_ge (tgt := 92) hx hb dX5_isAsTold_9 (by decide) (by omega) (by omega) (fun c_9 => ?_) (fun c_9 => ?_)
      · refine lv_iload_n hx hb dX5_isAsTold_92 rfl (lv_at hl 2 rfl) ?_
        exact ro_zret hx hb hr hlocks hS dX5_isAsTold_93 (narrow_bI _) (congrArg bI (by obtain rfl : i = n 6 := (by omega); rfl))
      · have eT := hT.2 i (by omega)
        have eD := drk_lt hlaw eT.1 (show f 6 (4 * i + 1) ≤ 4096 by omega) eT.2.2.1
        refine lv_iload_n hx hb dX5_isAsTold_12 rfl (lv_at hl 2 rfl) ?_
        refine b_if_eq (tgt := 92) hx hb dX5_isAsTold_13 (by decide) (fun c_13 => ?_) (fun c_13 => ?_)
        · refine lv_iload_n hx hb dX5_isAsTold_92 rfl (lv_at hl 2 rfl) ?_
          exact ro_zret hx hb hr hlocks hS dX5_isAsTold_93 (narrow_bI _) (congrArg bI (by rw [c_13]; exact (tolU_no c_13 hi1).symm))
        · refine lv_iload_n hx hb dX5_isAsTold_16 rfl (lv_at hl 1 rfl) ?_
          refine ro_i (roS_run (As := [.int (nI law)]) (rest := []) hx hb hml hown hts Tg_M (c_X5_aOf l D G _ law (by omega)) lk_RX5_157 ⟨rfl, rfl, Nat.le_of_ble_eq_true rfl, Nat.le_of_ble_eq_true rfl⟩ hP hK [] rfl rfl hl rfl (Nat.le_of_ble_eq_true rfl) dX5_isAsTold_17 ⟨Nat.le_of_ble_eq_true rfl, Nat.le_of_ble_eq_true rfl⟩) hS hA (fun locs hS => ?_)
          refine lv_iload_n hx hb dX5_isAsTold_20 rfl (lv_at hl 1 rfl) ?_
          refine ro_i (roS_run (As := [.int (nI law)]) (rest := [.int (nI (lP law 0))]) hx hb hml hown hts Tg_M (c_X5_bOf l D G _ law (by omega)) lk_RX5_161 ⟨rfl, rfl, Nat.le_of_ble_eq_true rfl, Nat.le_of_ble_eq_true rfl⟩ hP hK [] rfl rfl hl rfl (Nat.le_of_ble_eq_true rfl) dX5_isAsTold_21 ⟨Nat.le_of_ble_eq_true rfl, Nat.le_of_ble_eq_true rfl⟩) hS hA (fun locs hS => ?_)
          refine lv_iload_n hx hb dX5_isAsTold_24 rfl (lv_at hl 1 rfl) ?_
          refine ro_i (roS_run (As := [.int (nI law)]) (rest := [.int (nI (lP law 1)), .int (nI (lP law 0))]) hx hb hml hown hts Tg_M (c_X5_dOf l D G _ law (by omega)) lk_RX5_164 ⟨rfl, rfl, Nat.le_of_ble_eq_true rfl, Nat.le_of_ble_eq_true rfl⟩ hP hK [] rfl rfl hl rfl (Nat.le_of_ble_eq_true rfl) dX5_isAsTold_25 ⟨Nat.le_of_ble_eq_true rfl, Nat.le_of_ble_eq_true rfl⟩) hS hA (fun locs hS => ?_)
          refine lv_iload_n hx hb dX5_isAsTold_28 rfl (lv_at hl 1 rfl) ?_
          refine ro_i (roS_run (As := [.int (nI law)]) (rest := [.int (nI (lP law 2)), .int (nI (lP law 1)), .int (nI (lP law 0))]) hx hb hml hown hts Tg_M (c_X5_tOf l D G _ law (by omega)) lk_RX5_167 ⟨rfl, rfl, Nat.le_of_ble_eq_true rfl, Nat.le_of_ble_eq_true rfl⟩ hP hK [] rfl rfl hl rfl (Nat.le_of_ble_eq_true rfl) dX5_isAsTold_29 ⟨Nat.le_of_ble_eq_true rfl, Nat.le_of_ble_eq_true rfl⟩) hS hA (fun locs hS => ?_)
          refine lv_aload_n hx hb dX5_isAsTold_32 rfl (lv_at hl 0 rfl) ?_
          refine va_get (D := D) (ci := 4) (v := .ref (am 12)) (C := RX5) (T := TX5) (N := 21) hx hb hts (iX5) hown hK hP 0 rfl rfl 19 (by decide) (hts _ (List.mem_cons_of_mem _ wt_619)) (fun _ h9 => h9) rfl dX5_isAsTold_33 ?_
          refine lv_iconst (v := nI (4)) hx hb dX5_isAsTold_36 (by decide) ?_
          refine lv_iload_n hx hb dX5_isAsTold_37 rfl (lv_at hl 3 rfl) ?_
          refine n_imul hx hb dX5_isAsTold_38 ?_
          refine n_iald hx hb hK hP 1 (f := g 12) rfl (by omega) dX5_isAsTold_39 ?_
          refine n_tope (show nI (g 12 (4 * i)) = nI (f 6 (4 * i)) from congrArg nI (hMT.2 _ (by omega))) ?_
          refine lv_aload_n hx hb dX5_isAsTold_40 rfl (lv_at hl 0 rfl) ?_
          refine va_get (D := D) (ci := 4) (v := .ref (am 12)) (C := RX5) (T := TX5) (N := 21) hx hb hts (iX5) hown hK hP 0 rfl rfl 19 (by decide) (hts _ (List.mem_cons_of_mem _ wt_619)) (fun _ h9 => h9) rfl dX5_isAsTold_41 ?_
          refine lv_iconst (v := nI (4)) hx hb dX5_isAsTold_44 (by decide) ?_
          refine lv_iload_n hx hb dX5_isAsTold_45 rfl (lv_at hl 3 rfl) ?_
          refine n_imul hx hb dX5_isAsTold_46 ?_
          refine lv_iconst (v := nI (1)) hx hb dX5_isAsTold_47 (by decide) ?_
          refine n_iadd hx hb dX5_isAsTold_48 ?_
          refine n_iald hx hb hK hP 1 (f := g 12) rfl (by omega) dX5_isAsTold_49 ?_
          refine n_tope (show nI (g 12 ((4 * i) + 1)) = nI (f 6 ((4 * i) + 1)) from congrArg nI (hMT.2 _ (by omega))) ?_
          refine lv_aload_n hx hb dX5_isAsTold_50 rfl (lv_at hl 0 rfl) ?_
          refine va_get (D := D) (ci := 4) (v := .ref (am 12)) (C := RX5) (T := TX5) (N := 21) hx hb hts (iX5) hown hK hP 0 rfl rfl 19 (by decide) (hts _ (List.mem_cons_of_mem _ wt_619)) (fun _ h9 => h9) rfl dX5_isAsTold_51 ?_
          refine lv_iconst (v := nI (4)) hx hb dX5_isAsTold_54 (by decide) ?_
          refine lv_iload_n hx hb dX5_isAsTold_55 rfl (lv_at hl 3 rfl) ?_
          refine n_imul hx hb dX5_isAsTold_56 ?_
          refine lv_iconst (v := nI (2)) hx hb dX5_isAsTold_57 (by decide) ?_
          refine n_iadd hx hb dX5_isAsTold_58 ?_
          refine n_iald hx hb hK hP 1 (f := g 12) rfl (by omega) dX5_isAsTold_59 ?_
          refine n_tope (show nI (g 12 ((4 * i) + 2)) = nI (f 6 ((4 * i) + 2)) from congrArg nI (hMT.2 _ (by omega))) ?_
          have p0 := lP0 (show law < 3240 by omega)
          have p1 := lP1 law
          have p2 := lP2 law
          have p3 := lP3 law
          refine ro_i (roS_run (As := [.int (nI (lP law 0)), .int (nI (lP law 1)), .int (nI (lP law 2)), .int (nI (lP law 3)), .int (nI (f 6 (4 * i))), .int (nI (f 6 ((4 * i) + 1))), .int (nI (f 6 ((4 * i) + 2)))]) (rest := []) hx hb hml hown hts Tg_M (c_X5_byLaw l D G _ (lP law 0) (lP law 1) (lP law 2) (lP law 3) (f 6 (4 * i)) (f 6 ((4 * i) + 1)) (f 6 ((4 * i) + 2)) (by omega) (by omega) (by omega) (by omega) (by omega) (by omega) (by omega)) lk_RX5_101 ⟨rfl, rfl, Nat.le_of_ble_eq_true rfl, Nat.le_of_ble_eq_true rfl⟩ hP hK [] rfl rfl hl rfl (Nat.le_of_ble_eq_true rfl) dX5_isAsTold_60 ⟨Nat.le_of_ble_eq_true rfl, Nat.le_of_ble_eq_true rfl⟩) hS hA (fun locs hS => ?_)
          refine lv_istore (lv' := [(4, .int (nI (drk law (f 6 (4 * i)) (f 6 ((4 * i) + 1)) (f 6 ((4 * i) + 2))))), (0, .ref (am 0)), (1, .int (nI law)), (2, .int (bI (tolU f law i))), (3, .int (nI i))]) hx hb dX5_isAsTold_63 hl (by decide) rfl (fun ls hl => ?_)
          refine lv_iload hx hb dX5_isAsTold_65 (lv_at hl 0 rfl) ?_
          refine lv_aload_n hx hb dX5_isAsTold_67 rfl (lv_at hl 1 rfl) ?_
          refine va_get (D := D) (ci := 4) (v := .ref (am 12)) (C := RX5) (T := TX5) (N := 21) hx hb hts (iX5) hown hK hP 0 rfl rfl 19 (by decide) (hts _ (List.mem_cons_of_mem _ wt_619)) (fun _ h9 => h9) rfl dX5_isAsTold_68 ?_
          refine lv_iconst (v := nI (4)) hx hb dX5_isAsTold_71 (by decide) ?_
          refine lv_iload_n hx hb dX5_isAsTold_72 rfl (lv_at hl 4 rfl) ?_
          refine n_imul hx hb dX5_isAsTold_73 ?_
          refine lv_iconst (v := nI (3)) hx hb dX5_isAsTold_74 (by decide) ?_
          refine n_iadd hx hb dX5_isAsTold_75 ?_
          refine n_iald hx hb hK hP 1 (f := g 12) rfl (by omega) dX5_isAsTold_76 ?_
          refine n_tope (show nI (g 12 ((4 * i) + 3)) = nI (f 6 ((4 * i) + 3)) from congrArg nI (hMT.2 _ (by omega))) ?_
          refine n_icmp_ne (tgt := 84) hx hb dX5_isAsTold_77 (by decide) (by omega) (by omega) (fun c_77 => ?_) (fun c_77 => ?_)
          · refine lv_iconst (v := nI (0)) hx hb dX5_isAsTold_84 (by decide) ?_
            refine n_tope (show nI (0) = bI (tolU f law (i + 1)) from bI_of_f (by rw [tolU_s, decide_eq_false c_77, Bool.and_false])) ?_
            refine lv_istore_n (lv' := [(2, .int (bI (tolU f law (i + 1)))), (4, .int (nI (drk law (f 6 (4 * i)) (f 6 ((4 * i) + 1)) (f 6 ((4 * i) + 2))))), (0, .ref (am 0)), (1, .int (nI law)), (3, .int (nI i))]) hx hb dX5_isAsTold_85 rfl hl (by decide) rfl (fun ls hl => ?_)
            refine lv_iinc (v := nI (i + 1)) (lv' := [(3, .int (nI (i + 1))), (2, .int (bI (tolU f law (i + 1)))), (4, .int (nI (drk law (f 6 (4 * i)) (f 6 ((4 * i) + 1)) (f 6 ((4 * i) + 2))))), (0, .ref (am 0)), (1, .int (nI law))]) hx hb dX5_isAsTold_86 hl (k := 4) rfl (nI_inc _ _) (by decide) rfl (fun ls hl => ?_)
            refine lv_goto (tgt := 4) hx hb dX5_isAsTold_89 (by decide) ?_
            exact ih_2 (i + 1) (by omega) (by omega) locs hS _ (lv_sub hl [3, 4, 1, 0] rfl)
          · refine lv_iconst (v := nI (1)) hx hb dX5_isAsTold_80 (by decide) ?_
            refine n_tope (show nI (1) = bI (tolU f law (i + 1)) from bI_of_t (by rw [tolU_s, c_13, decide_eq_true c_77]; rfl)) ?_
            refine lv_goto (tgt := 85) hx hb dX5_isAsTold_81 (by decide) ?_
            refine lv_istore_n (lv' := [(2, .int (bI (tolU f law (i + 1)))), (4, .int (nI (drk law (f 6 (4 * i)) (f 6 ((4 * i) + 1)) (f 6 ((4 * i) + 2))))), (0, .ref (am 0)), (1, .int (nI law)), (3, .int (nI i))]) hx hb dX5_isAsTold_85 rfl hl (by decide) rfl (fun ls hl => ?_)
            refine lv_iinc (v := nI (i + 1)) (lv' := [(3, .int (nI (i + 1))), (2, .int (bI (tolU f law (i + 1)))), (4, .int (nI (drk law (f 6 (4 * i)) (f 6 ((4 * i) + 1)) (f 6 ((4 * i) + 2))))), (0, .ref (am 0)), (1, .int (nI law))]) hx hb dX5_isAsTold_86 hl (k := 4) rfl (nI_inc _ _) (by decide) rfl (fun ls hl => ?_)
            refine lv_goto (tgt := 4) hx hb dX5_isAsTold_89 (by decide) ?_
            exact ih_2 (i + 1) (by omega) (by omega) locs hS _ (lv_sub hl [3, 4, 1, 0] rfl)
  exact loop_1 (n 6 - 0 + 1) (0) (Nat.zero_le _) (Nat.lt_succ_self _) locs hS _ (lv_sub hl [2, 3, 1, 0] rfl)

set_option maxHeartbeats 4000000 in
set_option maxRecDepth 100000 in
theorem c_X5_learnt (l : Launch) (D : va_G) (G : ClassId × ClassId × ClassId) (H0 : Heap) (am n : Nat → Nat) (f : Nat → Nat → Nat) (k : Nat → Nat) (g : Nat → Nat → Nat) (j : Nat → Nat) (tx : Nat → Int32) (fl : Int32) (hh : Bool) (kp : Nat → Bool) (tr : Int64) (a : Int32) (hT : TI n f) (hMT : j 5 = n 6 ∧ ∀ x, x < 4 * n 6 → g 12 x = f 6 x) : Met l yX5_learnt (wM yX5_learnt cX5_learnt 5 (some .int)) (rmD 4) (rP D G [.ref (am 0), .int (a)] [(am 0, .inr (4, [.long (tr), .ref (am 1), .int (nI (j 0)), .ref (am 2), .ref (am 3), .ref (am 4), .ref (am 5), .ref (am 6), .ref (am 7), .ref (am 8), .ref (am 9), .int (nI (j 1)), .int (nI (j 2)), .int (nI (j 3)), .int (nI (j 4)), .int (fl), .int (bI (hh)), .ref (am 10), .ref (am 11), .ref (am 12), .int (nI (j 5))])), (am 12, .inl (G.1, 32, .inl (nF (g 12))))] H0) (rQi (spLearnt n f a) H0) 0 0 (rF H0) := by
  refine ro_start (Qc := fun H0 => (rQi (spLearnt n f a) H0)) (by decide) (Nat.le_of_ble_eq_true rfl) ?_
  intro p e s m args below meth c hx hb hr hts hown hlocks hml hP hK hA hH0 ls hl locs hS
  have hl : lv_has ls 5 [(0, .ref (am 0)), (1, .int (a))] := hl
  refine lv_iload_n hx hb dX5_learnt_0 rfl (lv_at hl 1 rfl) ?_
  refine lv_iconst (v := nI (0)) hx hb dX5_learnt_1 (by decide) ?_
  refine lv_iconst (v := nI (4)) hx hb dX5_learnt_2 (by decide) ?_
  refine ro_i (roS_run (As := [.int (a), .int (nI 0), .int (nI 4)]) (rest := []) hx hb hml hown hts Tg_M (c_X5_in l D G _ (a) (nI (0)) (nI (4))) lk_RX5_52 ⟨rfl, rfl, Nat.le_of_ble_eq_true rfl, Nat.le_of_ble_eq_true rfl⟩ hP hK [] rfl rfl hl rfl (Nat.le_of_ble_eq_true rfl) dX5_learnt_3 ⟨Nat.le_of_ble_eq_true rfl, Nat.le_of_ble_eq_true rfl⟩) hS hA (fun locs hS => ?_)
  refine b_if_ne (tgt := 11) hx hb dX5_learnt_6 (by decide) (fun c_6 => ?_) (fun c_6 => ?_)
  · obtain ⟨w, g_w, h_w, rfl⟩ := inR_N (by decide) (by decide) c_6
    have e_w := ir_yes g_w h_w (by decide)
    refine lv_iconst (v := nI (0)) hx hb dX5_learnt_11 (by decide) ?_
    refine lv_istore_n (lv' := [(2, .int (nI 0)), (0, .ref (am 0)), (1, .int (nI w))]) hx hb dX5_learnt_12 rfl hl (by decide) rfl (fun ls hl => ?_)
    refine lv_bipush (v := (-9)) hx hb dX5_learnt_13 (by decide) ?_
    refine lv_istore_n (lv' := [(3, .int (-9)), (2, .int (nI 0)), (0, .ref (am 0)), (1, .int (nI w))]) hx hb dX5_learnt_15 rfl hl (by decide) rfl (fun ls hl => ?_)
    refine lv_iconst (v := nI (0)) hx hb dX5_learnt_16 (by decide) ?_
    refine lv_istore (lv' := [(4, .int (nI 0)), (3, .int (-9)), (2, .int (nI 0)), (0, .ref (am 0)), (1, .int (nI w))]) hx hb dX5_learnt_17 hl (by decide) rfl (fun ls hl => ?_)
    have loop_1 : ∀ (fuel : Nat) (fit : Nat) (law : Nat) (o : Option Nat), (law ≤ 3240) → (fit ≤ law) → (match o with | none => fit = 0 | some q => q < 3240 ∧ fit ≠ 0) → (cntS (tolP n f) 3240 0 0 = cntS (tolP n f) (3240 - law) law fit) → (firS (tolP n f) 3240 0 = (match o with | none => firS (tolP n f) (3240 - law) law | some q => some q)) → (3240 - law) < fuel → ∀ (locs : List Loc), va_S (rF s.heap) s.heap s.heap locs → ∀ (ls : Array Slot), lv_has ls 5 [(0, .ref (am 0)), (1, .int (nI w)), (2, .int (nI fit)), (3, .int (fiI o)), (4, .int (nI law))] → W p l e (rmD 4) s m args below meth c s.heap locs 0 0 (MQ below (rQi (spLearnt n f (nI (w))) s.heap) args s 0 0 (rF s.heap)) (F0 m 19 ls []) := by
      intro fuel
      induction fuel with
      | zero => intro fit law o hi1 hi2 ho hu hv hfu; exact absurd hfu (Nat.not_lt_zero _)
      | succ fuel ih_2 =>
        intro fit law o hi1 hi2 ho hu hv hfu locs hS ls hl
        rcases o with _ | bt
        · have hl : lv_has ls 5 [(0, .ref (am 0)), (1, .int (nI w)), (2, .int (nI fit)), (3, .int (-9)), (4, .int (nI law))] := hl
          have ho := ho
          have ho1 : fit = 0 := ho
          refine lv_iload hx hb dX5_learnt_19 (lv_at hl 4 rfl) ?_
          refine lv_sipush (v := nI (3240)) hx hb dX5_learnt_21 (by decide) ?_
          refine n_icmp_ge (tgt := 56) hx hb dX5_learnt_24 (by decide) (by omega) (by omega) (fun c_24 => ?_) (fun c_24 => ?_)
          · refine lv_iload_n hx hb dX5_learnt_56 rfl (lv_at hl 1 rfl) ?_
            refine n_if_eq (tgt := 66) hx hb dX5_learnt_57 (by decide) (by omega) (fun c_57 => ?_) (fun c_57 => ?_)
            · refine lv_iload_n hx hb dX5_learnt_66 rfl (lv_at hl 1 rfl) ?_
              refine n_if_ne (tgt := 74) hx hb dX5_learnt_67 (by decide) (by omega) (fun c_67 => ?_) (fun c_67 => ?_)
              · exact absurd c_57 c_67
              · refine lv_iload_n hx hb dX5_learnt_70 rfl (lv_at hl 2 rfl) ?_
                refine lv_goto (tgt := 76) hx hb dX5_learnt_71 (by decide) ?_
                exact ro_iret hx hb hr hlocks hS dX5_learnt_76 (by simp only [spLearnt, e_w, Option.elim]; rw [if_pos c_67, hu, show 3240 - law = 0 by omega, cntS])
            · refine lv_iload_n hx hb dX5_learnt_60 rfl (lv_at hl 3 rfl) ?_
              refine lv_bipush (v := (-9)) hx hb dX5_learnt_61 (by decide) ?_
              refine lv_icmp_ne (tgt := 77) hx hb dX5_learnt_63 (by decide) (fun c_63 => ?_) (fun c_63 => ?_)
              · exact absurd rfl c_63
              · refine lv_iload_n hx hb dX5_learnt_66 rfl (lv_at hl 1 rfl) ?_
                refine n_if_ne (tgt := 74) hx hb dX5_learnt_67 (by decide) (by omega) (fun c_67 => ?_) (fun c_67 => ?_)
                · refine lv_bipush (v := (-9)) hx hb dX5_learnt_74 (by decide) ?_
                  exact ro_iret hx hb hr hlocks hS dX5_learnt_76 (by simp only [spLearnt, e_w, Option.elim]; rw [if_neg (by omega), hv]; show _ = (firS (tolP n f) (3240 - law) law).elim _ _; rw [show 3240 - law = 0 by omega, firS]; rfl)
                · refine lv_iload_n hx hb dX5_learnt_70 rfl (lv_at hl 2 rfl) ?_
                  refine lv_goto (tgt := 76) hx hb dX5_learnt_71 (by decide) ?_
                  exact ro_iret hx hb hr hlocks hS dX5_learnt_76 (by simp only [spLearnt, e_w, Option.elim]; rw [if_pos c_67, hu, show 3240 - law = 0 by omega, cntS])
          · refine lv_aload_n hx hb dX5_learnt_27 rfl (lv_at hl 0 rfl) ?_
            refine lv_iload hx hb dX5_learnt_28 (lv_at hl 4 rfl) ?_
            refine ro_i (roV_run (As := [.int (nI law)]) (rest := []) hx hb hml hown hts Tg_M (c_X5_isAsTold l D G _ am n f k g j tx fl hh kp tr law hT hMT (by omega)) lk_RX5_170 ⟨rfl, rfl, Nat.le_of_ble_eq_true rfl, Nat.le_of_ble_eq_true rfl⟩ hP hK [0, 1] rfl 0 4 rfl rfl rfl rfl hl rfl (Nat.le_of_ble_eq_true rfl) dX5_learnt_30 ⟨Nat.le_of_ble_eq_true rfl, Nat.le_of_ble_eq_true rfl⟩) hS hA (fun locs hS => ?_)
            refine b_if_eq (tgt := 50) hx hb dX5_learnt_33 (by decide) (fun c_33 => ?_) (fun c_33 => ?_)
            · refine lv_iinc (v := nI (law + 1)) (lv' := [(4, .int (nI (law + 1))), (0, .ref (am 0)), (1, .int (nI w)), (2, .int (nI fit)), (3, .int (-9))]) hx hb dX5_learnt_50 hl (k := 4) rfl (nI_inc _ _) (by decide) rfl (fun ls hl => ?_)
              refine lv_goto (tgt := 19) hx hb dX5_learnt_53 (by decide) ?_
              exact ih_2 (fit) (law + 1) (none) (by omega) (by omega) (ho) (by rw [hu, show 3240 - law = (3240 - (law + 1)) + 1 by omega, cntS, if_neg (by rw [c_33]; decide)]) (by rw [hv]; show firS (tolP n f) (3240 - law) law = firS (tolP n f) (3240 - (law + 1)) (law + 1); rw [show 3240 - law = (3240 - (law + 1)) + 1 by omega, firS, if_neg (by rw [c_33]; decide)]) (by omega) locs hS _ (lv_sub hl [1, 2, 3, 4, 0] rfl)
            · refine lv_iload_n hx hb dX5_learnt_36 rfl (lv_at hl 2 rfl) ?_
              refine n_if_ne (tgt := 45) hx hb dX5_learnt_37 (by decide) (by omega) (fun c_37 => ?_) (fun c_37 => ?_)
              · exact absurd ho1 c_37
              · refine lv_iload hx hb dX5_learnt_40 (lv_at hl 4 rfl) ?_
                refine lv_goto (tgt := 46) hx hb dX5_learnt_42 (by decide) ?_
                refine lv_istore_n (lv' := [(3, .int (nI law)), (0, .ref (am 0)), (1, .int (nI w)), (2, .int (nI fit)), (4, .int (nI law))]) hx hb dX5_learnt_46 rfl hl (by decide) rfl (fun ls hl => ?_)
                refine lv_iinc (v := nI (fit + 1)) (lv' := [(2, .int (nI (fit + 1))), (3, .int (nI law)), (0, .ref (am 0)), (1, .int (nI w)), (4, .int (nI law))]) hx hb dX5_learnt_47 hl (k := 3) rfl (nI_inc _ _) (by decide) rfl (fun ls hl => ?_)
                refine lv_iinc (v := nI (law + 1)) (lv' := [(4, .int (nI (law + 1))), (2, .int (nI (fit + 1))), (3, .int (nI law)), (0, .ref (am 0)), (1, .int (nI w))]) hx hb dX5_learnt_50 hl (k := 4) rfl (nI_inc _ _) (by decide) rfl (fun ls hl => ?_)
                refine lv_goto (tgt := 19) hx hb dX5_learnt_53 (by decide) ?_
                exact ih_2 (fit + 1) (law + 1) (some law) (by omega) (by omega) (⟨by omega, by omega⟩) (by rw [hu, show 3240 - law = (3240 - (law + 1)) + 1 by omega, cntS, if_pos c_33]) (by rw [hv]; show firS (tolP n f) (3240 - law) law = _; rw [show 3240 - law = (3240 - (law + 1)) + 1 by omega, firS, if_pos c_33]) (by omega) locs hS _ (lv_sub hl [3, 4, 1, 2, 0] rfl)
        · have hl : lv_has ls 5 [(0, .ref (am 0)), (1, .int (nI w)), (2, .int (nI fit)), (3, .int (nI bt)), (4, .int (nI law))] := hl
          have ho := ho
          have ho1 : bt < 3240 ∧ fit ≠ 0 := ho
          refine lv_iload hx hb dX5_learnt_19 (lv_at hl 4 rfl) ?_
          refine lv_sipush (v := nI (3240)) hx hb dX5_learnt_21 (by decide) ?_
          refine n_icmp_ge (tgt := 56) hx hb dX5_learnt_24 (by decide) (by omega) (by omega) (fun c_24 => ?_) (fun c_24 => ?_)
          · refine lv_iload_n hx hb dX5_learnt_56 rfl (lv_at hl 1 rfl) ?_
            refine n_if_eq (tgt := 66) hx hb dX5_learnt_57 (by decide) (by omega) (fun c_57 => ?_) (fun c_57 => ?_)
            · refine lv_iload_n hx hb dX5_learnt_66 rfl (lv_at hl 1 rfl) ?_
              refine n_if_ne (tgt := 74) hx hb dX5_learnt_67 (by decide) (by omega) (fun c_67 => ?_) (fun c_67 => ?_)
              · exact absurd c_57 c_67
              · refine lv_iload_n hx hb dX5_learnt_70 rfl (lv_at hl 2 rfl) ?_
                refine lv_goto (tgt := 76) hx hb dX5_learnt_71 (by decide) ?_
                exact ro_iret hx hb hr hlocks hS dX5_learnt_76 (by simp only [spLearnt, e_w, Option.elim]; rw [if_pos c_67, hu, show 3240 - law = 0 by omega, cntS])
            · refine lv_iload_n hx hb dX5_learnt_60 rfl (lv_at hl 3 rfl) ?_
              refine lv_bipush (v := (-9)) hx hb dX5_learnt_61 (by decide) ?_
              refine lv_icmp_ne (tgt := 77) hx hb dX5_learnt_63 (by decide) (fun c_63 => ?_) (fun c_63 => ?_)
              · refine lv_iload_n hx hb dX5_learnt_77 rfl (lv_at hl 1 rfl) ?_
                refine lv_iconst (v := nI (1)) hx hb dX5_learnt_78 (by decide) ?_
                refine n_icmp_ne (tgt := 89) hx hb dX5_learnt_79 (by decide) (by omega) (by omega) (fun c_79 => ?_) (fun c_79 => ?_)
                · refine lv_iload_n hx hb dX5_learnt_89 rfl (lv_at hl 1 rfl) ?_
                  refine lv_iconst (v := nI (2)) hx hb dX5_learnt_90 (by decide) ?_
                  refine n_icmp_ne (tgt := 101) hx hb dX5_learnt_91 (by decide) (by omega) (by omega) (fun c_91 => ?_) (fun c_91 => ?_)
                  · refine lv_iload_n hx hb dX5_learnt_101 rfl (lv_at hl 1 rfl) ?_
                    refine lv_iconst (v := nI (3)) hx hb dX5_learnt_102 (by decide) ?_
                    refine n_icmp_ne (tgt := 113) hx hb dX5_learnt_103 (by decide) (by omega) (by omega) (fun c_103 => ?_) (fun c_103 => ?_)
                    · refine lv_iload_n hx hb dX5_learnt_113 rfl (lv_at hl 3 rfl) ?_
                      refine ro_i (roS_run (As := [.int (nI bt)]) (rest := []) hx hb hml hown hts Tg_M (c_X5_tOf l D G _ bt (by omega)) lk_RX5_167 ⟨rfl, rfl, Nat.le_of_ble_eq_true rfl, Nat.le_of_ble_eq_true rfl⟩ hP hK [] rfl rfl hl rfl (Nat.le_of_ble_eq_true rfl) dX5_learnt_114 ⟨Nat.le_of_ble_eq_true rfl, Nat.le_of_ble_eq_true rfl⟩) hS hA (fun locs hS => ?_)
                      exact ro_iret hx hb hr hlocks hS dX5_learnt_117 (by simp only [spLearnt, e_w, Option.elim]; rw [if_neg (by omega), hv, show w = 4 by omega])
                    · refine lv_iload_n hx hb dX5_learnt_106 rfl (lv_at hl 3 rfl) ?_
                      refine ro_i (roS_run (As := [.int (nI bt)]) (rest := []) hx hb hml hown hts Tg_M (c_X5_dOf l D G _ bt (by omega)) lk_RX5_164 ⟨rfl, rfl, Nat.le_of_ble_eq_true rfl, Nat.le_of_ble_eq_true rfl⟩ hP hK [] rfl rfl hl rfl (Nat.le_of_ble_eq_true rfl) dX5_learnt_107 ⟨Nat.le_of_ble_eq_true rfl, Nat.le_of_ble_eq_true rfl⟩) hS hA (fun locs hS => ?_)
                      refine lv_goto (tgt := 117) hx hb dX5_learnt_110 (by decide) ?_
                      exact ro_iret hx hb hr hlocks hS dX5_learnt_117 (by simp only [spLearnt, e_w, Option.elim]; rw [if_neg (by omega), hv, show w = 3 by omega])
                  · refine lv_iload_n hx hb dX5_learnt_94 rfl (lv_at hl 3 rfl) ?_
                    refine ro_i (roS_run (As := [.int (nI bt)]) (rest := []) hx hb hml hown hts Tg_M (c_X5_bOf l D G _ bt (by omega)) lk_RX5_161 ⟨rfl, rfl, Nat.le_of_ble_eq_true rfl, Nat.le_of_ble_eq_true rfl⟩ hP hK [] rfl rfl hl rfl (Nat.le_of_ble_eq_true rfl) dX5_learnt_95 ⟨Nat.le_of_ble_eq_true rfl, Nat.le_of_ble_eq_true rfl⟩) hS hA (fun locs hS => ?_)
                    refine lv_goto (tgt := 117) hx hb dX5_learnt_98 (by decide) ?_
                    exact ro_iret hx hb hr hlocks hS dX5_learnt_117 (by simp only [spLearnt, e_w, Option.elim]; rw [if_neg (by omega), hv, show w = 2 by omega])
                · refine lv_iload_n hx hb dX5_learnt_82 rfl (lv_at hl 3 rfl) ?_
                  refine ro_i (roS_run (As := [.int (nI bt)]) (rest := []) hx hb hml hown hts Tg_M (c_X5_aOf l D G _ bt (by omega)) lk_RX5_157 ⟨rfl, rfl, Nat.le_of_ble_eq_true rfl, Nat.le_of_ble_eq_true rfl⟩ hP hK [] rfl rfl hl rfl (Nat.le_of_ble_eq_true rfl) dX5_learnt_83 ⟨Nat.le_of_ble_eq_true rfl, Nat.le_of_ble_eq_true rfl⟩) hS hA (fun locs hS => ?_)
                  refine lv_goto (tgt := 117) hx hb dX5_learnt_86 (by decide) ?_
                  exact ro_iret hx hb hr hlocks hS dX5_learnt_117 (by simp only [spLearnt, e_w, Option.elim]; rw [if_neg (by omega), hv, show w = 1 by omega])
              · exact absurd c_63 (nI_ne9 (by omega))
          · refine lv_aload_n hx hb dX5_learnt_27 rfl (lv_at hl 0 rfl) ?_
            refine lv_iload hx hb dX5_learnt_28 (lv_at hl 4 rfl) ?_
            refine ro_i (roV_run (As := [.int (nI law)]) (rest := []) hx hb hml hown hts Tg_M (c_X5_isAsTold l D G _ am n f k g j tx fl hh kp tr law hT hMT (by omega)) lk_RX5_170 ⟨rfl, rfl, Nat.le_of_ble_eq_true rfl, Nat.le_of_ble_eq_true rfl⟩ hP hK [0, 1] rfl 0 4 rfl rfl rfl rfl hl rfl (Nat.le_of_ble_eq_true rfl) dX5_learnt_30 ⟨Nat.le_of_ble_eq_true rfl, Nat.le_of_ble_eq_true rfl⟩) hS hA (fun locs hS => ?_)
            refine b_if_eq (tgt := 50) hx hb dX5_learnt_33 (by decide) (fun c_33 => ?_) (fun c_33 => ?_)
            · refine lv_iinc (v := nI (law + 1)) (lv' := [(4, .int (nI (law + 1))), (0, .ref (am 0)), (1, .int (nI w)), (2, .int (nI fit)), (3, .int (nI bt))]) hx hb dX5_learnt_50 hl (k := 4) rfl (nI_inc _ _) (by decide) rfl (fun ls hl => ?_)
              refine lv_goto (tgt := 19) hx hb dX5_learnt_53 (by decide) ?_
              exact ih_2 (fit) (law + 1) (some bt) (by omega) (by omega) (ho) (by rw [hu, show 3240 - law = (3240 - (law + 1)) + 1 by omega, cntS, if_neg (by rw [c_33]; decide)]) (hv) (by omega) locs hS _ (lv_sub hl [1, 2, 3, 4, 0] rfl)
            · refine lv_iload_n hx hb dX5_learnt_36 rfl (lv_at hl 2 rfl) ?_
              refine n_if_ne (tgt := 45) hx hb dX5_learnt_37 (by decide) (by omega) (fun c_37 => ?_) (fun c_37 => ?_)
              · refine lv_iload_n hx hb dX5_learnt_45 rfl (lv_at hl 3 rfl) ?_
                refine lv_istore_n (lv' := [(3, .int (nI bt)), (0, .ref (am 0)), (1, .int (nI w)), (2, .int (nI fit)), (4, .int (nI law))]) hx hb dX5_learnt_46 rfl hl (by decide) rfl (fun ls hl => ?_)
                refine lv_iinc (v := nI (fit + 1)) (lv' := [(2, .int (nI (fit + 1))), (3, .int (nI bt)), (0, .ref (am 0)), (1, .int (nI w)), (4, .int (nI law))]) hx hb dX5_learnt_47 hl (k := 3) rfl (nI_inc _ _) (by decide) rfl (fun ls hl => ?_)
                refine lv_iinc (v := nI (law + 1)) (lv' := [(4, .int (nI (law + 1))), (2, .int (nI (fit + 1))), (3, .int (nI bt)), (0, .ref (am 0)), (1, .int (nI w))]) hx hb dX5_learnt_50 hl (k := 4) rfl (nI_inc _ _) (by decide) rfl (fun ls hl => ?_)
                refine lv_goto (tgt := 19) hx hb dX5_learnt_53 (by decide) ?_
                exact ih_2 (fit + 1) (law + 1) (some bt) (by omega) (by omega) (⟨by omega, by omega⟩) (by rw [hu, show 3240 - law = (3240 - (law + 1)) + 1 by omega, cntS, if_pos c_33]) (hv) (by omega) locs hS _ (lv_sub hl [3, 4, 1, 2, 0] rfl)
              · exact absurd c_37 (by omega)
    exact loop_1 (3240 - 0 + 1) (0) (0) (none) (by omega) (by omega) (rfl) (rfl) (rfl) (Nat.lt_succ_self _) locs hS _ (lv_sub hl [3, 4, 2, 1, 0] rfl)
  · have e_w := ir_no c_6
    refine lv_iconst (v := (-1)) hx hb dX5_learnt_9 (by decide) ?_
    exact ro_iret hx hb hr hlocks hS dX5_learnt_10 (by simp only [spLearnt, e_w, Option.elim])

set_option maxHeartbeats 4000000 in
set_option maxRecDepth 100000 in
theorem c_X5_may (l : Launch) (D : va_G) (G : ClassId × ClassId × ClassId) (H0 : Heap) (am n : Nat → Nat) (f : Nat → Nat → Nat) (k : Nat → Nat) (g : Nat → Nat → Nat) (j : Nat → Nat) (tx : Nat → Int32) (fl : Int32) (hh : Bool) (kp : Nat → Bool) (tr : Int64) (a a2 a3 a4 : Int32) (hT : TI n f) (hMT : j 5 = n 6 ∧ ∀ x, x < 4 * n 6 → g 12 x = f 6 x) : Met l yX5_may (wM yX5_may cX5_may 9 (some .int)) (rmD 4) (rP D G [.ref (am 0), .int (a), .int (a2), .int (a3), .int (a4)] [(am 0, .inr (4, [.long (tr), .ref (am 1), .int (nI (j 0)), .ref (am 2), .ref (am 3), .ref (am 4), .ref (am 5), .ref (am 6), .ref (am 7), .ref (am 8), .ref (am 9), .int (nI (j 1)), .int (nI (j 2)), .int (nI (j 3)), .int (nI (j 4)), .int (fl), .int (bI (hh)), .ref (am 10), .ref (am 11), .ref (am 12), .int (nI (j 5))])), (am 12, .inl (G.1, 32, .inl (nF (g 12))))] H0) (rQi (spMay n f a a2 a3 a4) H0) 0 0 (rF H0) := by
  refine ro_start (Qc := fun H0 => (rQi (spMay n f a a2 a3 a4) H0)) (by decide) (Nat.le_of_ble_eq_true rfl) ?_
  intro p e s m args below meth c hx hb hr hts hown hlocks hml hP hK hA hH0 ls hl locs hS
  have hl : lv_has ls 9 [(0, .ref (am 0)), (1, .int (a)), (2, .int (a2)), (3, .int (a3)), (4, .int (a4))] := hl
  refine lv_iload_n hx hb dX5_may_0 rfl (lv_at hl 1 rfl) ?_
  refine lv_iload_n hx hb dX5_may_1 rfl (lv_at hl 2 rfl) ?_
  refine lv_iload_n hx hb dX5_may_2 rfl (lv_at hl 3 rfl) ?_
  refine ro_i (roS_run (As := [.int (a), .int (a2), .int (a3)]) (rest := []) hx hb hml hown hts Tg_M (c_X5_isTasting l D G _ (a) (a2) (a3)) lk_RX5_154 ⟨rfl, rfl, Nat.le_of_ble_eq_true rfl, Nat.le_of_ble_eq_true rfl⟩ hP hK [] rfl rfl hl rfl (Nat.le_of_ble_eq_true rfl) dX5_may_3 ⟨Nat.le_of_ble_eq_true rfl, Nat.le_of_ble_eq_true rfl⟩) hS hA (fun locs hS => ?_)
  refine b_if_eq (tgt := 19) hx hb dX5_may_6 (by decide) (fun c_6 => ?_) (fun c_6 => ?_)
  · have e_T := irT_no c_6
    refine lv_iconst (v := (-1)) hx hb dX5_may_19 (by decide) ?_
    exact ro_iret hx hb hr hlocks hS dX5_may_20 (by simp only [spMay, e_T, Option.elim])
  · obtain ⟨x, y, z, hx9, hy9, hz9, rfl, rfl, rfl, e_T⟩ := irT_ok c_6
    refine lv_iload hx hb dX5_may_9 (lv_at hl 4 rfl) ?_
    refine lv_iconst (v := nI (0)) hx hb dX5_may_11 (by decide) ?_
    refine lv_iconst (v := nI (1)) hx hb dX5_may_12 (by decide) ?_
    refine ro_i (roS_run (As := [.int (a4), .int (nI 0), .int (nI 1)]) (rest := []) hx hb hml hown hts Tg_M (c_X5_in l D G _ (a4) (nI (0)) (nI (1))) lk_RX5_52 ⟨rfl, rfl, Nat.le_of_ble_eq_true rfl, Nat.le_of_ble_eq_true rfl⟩ hP hK [] rfl rfl hl rfl (Nat.le_of_ble_eq_true rfl) dX5_may_13 ⟨Nat.le_of_ble_eq_true rfl, Nat.le_of_ble_eq_true rfl⟩) hS hA (fun locs hS => ?_)
    refine b_if_ne (tgt := 21) hx hb dX5_may_16 (by decide) (fun c_16 => ?_) (fun c_16 => ?_)
    · obtain ⟨w, g_w, h_w, rfl⟩ := inR_N (by decide) (by decide) c_16
      have e_w := ir_yes g_w h_w (by decide)
      refine lv_bipush (v := (-9)) hx hb dX5_may_21 (by decide) ?_
      refine lv_istore (lv' := [(5, .int (-9)), (0, .ref (am 0)), (1, .int (nI x)), (2, .int (nI y)), (3, .int (nI z)), (4, .int (nI w))]) hx hb dX5_may_23 hl (by decide) rfl (fun ls hl => ?_)
      refine lv_bipush (v := (-9)) hx hb dX5_may_25 (by decide) ?_
      refine lv_istore (lv' := [(6, .int (-9)), (5, .int (-9)), (0, .ref (am 0)), (1, .int (nI x)), (2, .int (nI y)), (3, .int (nI z)), (4, .int (nI w))]) hx hb dX5_may_27 hl (by decide) rfl (fun ls hl => ?_)
      refine lv_iconst (v := nI (0)) hx hb dX5_may_29 (by decide) ?_
      refine lv_istore (lv' := [(7, .int (nI 0)), (6, .int (-9)), (5, .int (-9)), (0, .ref (am 0)), (1, .int (nI x)), (2, .int (nI y)), (3, .int (nI z)), (4, .int (nI w))]) hx hb dX5_may_30 hl (by decide) rfl (fun ls hl => ?_)
      have loop_1 : ∀ (fuel : Nat) (law : Nat) (o : Option (Nat × Nat)), (law ≤ 3240) → (optB o 558 558) → (mayS (tolP n f) (fun law => drk law x y z) 3240 0 none = mayS (tolP n f) (fun law => drk law x y z) (3240 - law) law o) → (3240 - law) < fuel → ∀ (locs : List Loc), va_S (rF s.heap) s.heap s.heap locs → ∀ (ls : Array Slot), lv_has ls 9 [(0, .ref (am 0)), (1, .int (nI x)), (2, .int (nI y)), (3, .int (nI z)), (4, .int (nI w)), (5, .int (optI o 0)), (6, .int (optI o 1)), (7, .int (nI law))] → W p l e (rmD 4) s m args below meth c s.heap locs 0 0 (MQ below (rQi (spMay n f (nI (x)) (nI (y)) (nI (z)) (nI (w))) s.heap) args s 0 0 (rF s.heap)) (F0 m 32 ls []) := by
        intro fuel
        induction fuel with
        | zero => intro law o hi1 ho hu hfu; exact absurd hfu (Nat.not_lt_zero _)
        | succ fuel ih_2 =>
          intro law o hi1 ho hu hfu locs hS ls hl
          rcases o with _ | ⟨bt, bf⟩
          · have hl : lv_has ls 9 [(0, .ref (am 0)), (1, .int (nI x)), (2, .int (nI y)), (3, .int (nI z)), (4, .int (nI w)), (5, .int (-9)), (6, .int (-9)), (7, .int (nI law))] := hl
            refine lv_iload hx hb dX5_may_32 (lv_at hl 7 rfl) ?_
            refine lv_sipush (v := nI (3240)) hx hb dX5_may_34 (by decide) ?_
            refine n_icmp_ge (tgt := 122) hx hb dX5_may_37 (by decide) (by omega) (by omega) (fun c_37 => ?_) (fun c_37 => ?_)
            · refine lv_iload hx hb dX5_may_122 (lv_at hl 4 rfl) ?_
              refine n_if_ne (tgt := 132) hx hb dX5_may_124 (by decide) (by omega) (fun c_124 => ?_) (fun c_124 => ?_)
              · refine lv_iload hx hb dX5_may_132 (lv_at hl 6 rfl) ?_
                exact ro_iret hx hb hr hlocks hS dX5_may_134 (by simp only [spMay, e_T, e_w, Option.elim]; rw [hu, show 3240 - law = 0 by omega, mayS, show w = 1 by omega]; rfl)
              · refine lv_iload hx hb dX5_may_127 (lv_at hl 5 rfl) ?_
                refine lv_goto (tgt := 134) hx hb dX5_may_129 (by decide) ?_
                exact ro_iret hx hb hr hlocks hS dX5_may_134 (by simp only [spMay, e_T, e_w, Option.elim]; rw [hu, show 3240 - law = 0 by omega, mayS, c_124]; rfl)
            · refine lv_aload_n hx hb dX5_may_40 rfl (lv_at hl 0 rfl) ?_
              refine lv_iload hx hb dX5_may_41 (lv_at hl 7 rfl) ?_
              refine ro_i (roV_run (As := [.int (nI law)]) (rest := []) hx hb hml hown hts Tg_M (c_X5_isAsTold l D G _ am n f k g j tx fl hh kp tr law hT hMT (by omega)) lk_RX5_170 ⟨rfl, rfl, Nat.le_of_ble_eq_true rfl, Nat.le_of_ble_eq_true rfl⟩ hP hK [0, 1] rfl 0 4 rfl rfl rfl rfl hl rfl (Nat.le_of_ble_eq_true rfl) dX5_may_43 ⟨Nat.le_of_ble_eq_true rfl, Nat.le_of_ble_eq_true rfl⟩) hS hA (fun locs hS => ?_)
              refine b_if_eq (tgt := 116) hx hb dX5_may_46 (by decide) (fun c_46 => ?_) (fun c_46 => ?_)
              · refine lv_iinc (v := nI (law + 1)) (lv' := [(7, .int (nI (law + 1))), (0, .ref (am 0)), (1, .int (nI x)), (2, .int (nI y)), (3, .int (nI z)), (4, .int (nI w)), (5, .int (-9)), (6, .int (-9))]) hx hb dX5_may_116 hl (k := 7) rfl (nI_inc _ _) (by decide) rfl (fun ls hl => ?_)
                refine lv_goto (tgt := 32) hx hb dX5_may_119 (by decide) ?_
                exact ih_2 (law + 1) (none) (by omega) (ho) (by rw [hu, show 3240 - law = (3240 - (law + 1)) + 1 by omega, mayS, if_neg (by rw [c_46]; decide)]) (by omega) locs hS _ (lv_sub hl [1, 2, 3, 4, 5, 6, 7, 0] rfl)
              · have eD := drk_lt (law := law) (by omega) hx9 (show y ≤ 4096 by omega) hz9
                refine lv_iload hx hb dX5_may_49 (lv_at hl 7 rfl) ?_
                refine ro_i (roS_run (As := [.int (nI law)]) (rest := []) hx hb hml hown hts Tg_M (c_X5_aOf l D G _ law (by omega)) lk_RX5_157 ⟨rfl, rfl, Nat.le_of_ble_eq_true rfl, Nat.le_of_ble_eq_true rfl⟩ hP hK [] rfl rfl hl rfl (Nat.le_of_ble_eq_true rfl) dX5_may_51 ⟨Nat.le_of_ble_eq_true rfl, Nat.le_of_ble_eq_true rfl⟩) hS hA (fun locs hS => ?_)
                refine lv_iload hx hb dX5_may_54 (lv_at hl 7 rfl) ?_
                refine ro_i (roS_run (As := [.int (nI law)]) (rest := [.int (nI (lP law 0))]) hx hb hml hown hts Tg_M (c_X5_bOf l D G _ law (by omega)) lk_RX5_161 ⟨rfl, rfl, Nat.le_of_ble_eq_true rfl, Nat.le_of_ble_eq_true rfl⟩ hP hK [] rfl rfl hl rfl (Nat.le_of_ble_eq_true rfl) dX5_may_56 ⟨Nat.le_of_ble_eq_true rfl, Nat.le_of_ble_eq_true rfl⟩) hS hA (fun locs hS => ?_)
                refine lv_iload hx hb dX5_may_59 (lv_at hl 7 rfl) ?_
                refine ro_i (roS_run (As := [.int (nI law)]) (rest := [.int (nI (lP law 1)), .int (nI (lP law 0))]) hx hb hml hown hts Tg_M (c_X5_dOf l D G _ law (by omega)) lk_RX5_164 ⟨rfl, rfl, Nat.le_of_ble_eq_true rfl, Nat.le_of_ble_eq_true rfl⟩ hP hK [] rfl rfl hl rfl (Nat.le_of_ble_eq_true rfl) dX5_may_61 ⟨Nat.le_of_ble_eq_true rfl, Nat.le_of_ble_eq_true rfl⟩) hS hA (fun locs hS => ?_)
                refine lv_iload hx hb dX5_may_64 (lv_at hl 7 rfl) ?_
                refine ro_i (roS_run (As := [.int (nI law)]) (rest := [.int (nI (lP law 2)), .int (nI (lP law 1)), .int (nI (lP law 0))]) hx hb hml hown hts Tg_M (c_X5_tOf l D G _ law (by omega)) lk_RX5_167 ⟨rfl, rfl, Nat.le_of_ble_eq_true rfl, Nat.le_of_ble_eq_true rfl⟩ hP hK [] rfl rfl hl rfl (Nat.le_of_ble_eq_true rfl) dX5_may_66 ⟨Nat.le_of_ble_eq_true rfl, Nat.le_of_ble_eq_true rfl⟩) hS hA (fun locs hS => ?_)
                refine lv_iload_n hx hb dX5_may_69 rfl (lv_at hl 1 rfl) ?_
                refine lv_iload_n hx hb dX5_may_70 rfl (lv_at hl 2 rfl) ?_
                refine lv_iload_n hx hb dX5_may_71 rfl (lv_at hl 3 rfl) ?_
                have p0 := lP0 (show law < 3240 by omega)
                have p1 := lP1 law
                have p2 := lP2 law
                have p3 := lP3 law
                refine ro_i (roS_run (As := [.int (nI (lP law 0)), .int (nI (lP law 1)), .int (nI (lP law 2)), .int (nI (lP law 3)), .int (nI x), .int (nI y), .int (nI z)]) (rest := []) hx hb hml hown hts Tg_M (c_X5_byLaw l D G _ (lP law 0) (lP law 1) (lP law 2) (lP law 3) x y z (by omega) (by omega) (by omega) (by omega) (by omega) (by omega) (by omega)) lk_RX5_101 ⟨rfl, rfl, Nat.le_of_ble_eq_true rfl, Nat.le_of_ble_eq_true rfl⟩ hP hK [] rfl rfl hl rfl (Nat.le_of_ble_eq_true rfl) dX5_may_72 ⟨Nat.le_of_ble_eq_true rfl, Nat.le_of_ble_eq_true rfl⟩) hS hA (fun locs hS => ?_)
                refine lv_istore (lv' := [(8, .int (nI (drk law x y z))), (0, .ref (am 0)), (1, .int (nI x)), (2, .int (nI y)), (3, .int (nI z)), (4, .int (nI w)), (5, .int (-9)), (6, .int (-9)), (7, .int (nI law))]) hx hb dX5_may_75 hl (by decide) rfl (fun ls hl => ?_)
                refine lv_iload hx hb dX5_may_77 (lv_at hl 6 rfl) ?_
                refine lv_bipush (v := (-9)) hx hb dX5_may_79 (by decide) ?_
                refine lv_icmp_eq (tgt := 91) hx hb dX5_may_81 (by decide) (fun c_81 => ?_) (fun c_81 => ?_)
                · refine lv_iload hx hb dX5_may_91 (lv_at hl 0 rfl) ?_
                  refine lv_goto (tgt := 98) hx hb dX5_may_93 (by decide) ?_
                  refine lv_istore (lv' := [(5, .int (nI (drk law x y z))), (8, .int (nI (drk law x y z))), (0, .ref (am 0)), (1, .int (nI x)), (2, .int (nI y)), (3, .int (nI z)), (4, .int (nI w)), (6, .int (-9)), (7, .int (nI law))]) hx hb dX5_may_98 hl (by decide) rfl (fun ls hl => ?_)
                  refine lv_iload hx hb dX5_may_100 (lv_at hl 1 rfl) ?_
                  refine lv_iload hx hb dX5_may_102 (lv_at hl 7 rfl) ?_
                  refine lv_icmp_le (tgt := 112) hx hb dX5_may_104 (by decide) (fun c_104 => ?_) (fun c_104 => ?_)
                  · exact absurd c_104 (nI_nle9 (by omega))
                  · refine lv_iload hx hb dX5_may_107 (lv_at hl 1 rfl) ?_
                    refine lv_goto (tgt := 114) hx hb dX5_may_109 (by decide) ?_
                    refine lv_istore (lv' := [(6, .int (nI (drk law x y z))), (5, .int (nI (drk law x y z))), (8, .int (nI (drk law x y z))), (0, .ref (am 0)), (1, .int (nI x)), (2, .int (nI y)), (3, .int (nI z)), (4, .int (nI w)), (7, .int (nI law))]) hx hb dX5_may_114 hl (by decide) rfl (fun ls hl => ?_)
                    refine lv_iinc (v := nI (law + 1)) (lv' := [(7, .int (nI (law + 1))), (6, .int (nI (drk law x y z))), (5, .int (nI (drk law x y z))), (8, .int (nI (drk law x y z))), (0, .ref (am 0)), (1, .int (nI x)), (2, .int (nI y)), (3, .int (nI z)), (4, .int (nI w))]) hx hb dX5_may_116 hl (k := 8) rfl (nI_inc _ _) (by decide) rfl (fun ls hl => ?_)
                    refine lv_goto (tgt := 32) hx hb dX5_may_119 (by decide) ?_
                    exact ih_2 (law + 1) (some (drk law x y z, drk law x y z)) (by omega) (⟨by omega, by omega⟩) (by rw [hu, show 3240 - law = (3240 - (law + 1)) + 1 by omega, mayS, if_pos c_46]) (by omega) locs hS _ (lv_sub hl [4, 5, 6, 7, 8, 2, 1, 0] rfl)
                · exact absurd rfl c_81
          · have hl : lv_has ls 9 [(0, .ref (am 0)), (1, .int (nI x)), (2, .int (nI y)), (3, .int (nI z)), (4, .int (nI w)), (5, .int (nI bt)), (6, .int (nI bf)), (7, .int (nI law))] := hl
            have ho1 : bt ≤ 558 := ho.1
            have ho2 : bf ≤ 558 := ho.2
            refine lv_iload hx hb dX5_may_32 (lv_at hl 7 rfl) ?_
            refine lv_sipush (v := nI (3240)) hx hb dX5_may_34 (by decide) ?_
            refine n_icmp_ge (tgt := 122) hx hb dX5_may_37 (by decide) (by omega) (by omega) (fun c_37 => ?_) (fun c_37 => ?_)
            · refine lv_iload hx hb dX5_may_122 (lv_at hl 4 rfl) ?_
              refine n_if_ne (tgt := 132) hx hb dX5_may_124 (by decide) (by omega) (fun c_124 => ?_) (fun c_124 => ?_)
              · refine lv_iload hx hb dX5_may_132 (lv_at hl 6 rfl) ?_
                exact ro_iret hx hb hr hlocks hS dX5_may_134 (by simp only [spMay, e_T, e_w, Option.elim]; rw [hu, show 3240 - law = 0 by omega, mayS, show w = 1 by omega]; rfl)
              · refine lv_iload hx hb dX5_may_127 (lv_at hl 5 rfl) ?_
                refine lv_goto (tgt := 134) hx hb dX5_may_129 (by decide) ?_
                exact ro_iret hx hb hr hlocks hS dX5_may_134 (by simp only [spMay, e_T, e_w, Option.elim]; rw [hu, show 3240 - law = 0 by omega, mayS, c_124]; rfl)
            · refine lv_aload_n hx hb dX5_may_40 rfl (lv_at hl 0 rfl) ?_
              refine lv_iload hx hb dX5_may_41 (lv_at hl 7 rfl) ?_
              refine ro_i (roV_run (As := [.int (nI law)]) (rest := []) hx hb hml hown hts Tg_M (c_X5_isAsTold l D G _ am n f k g j tx fl hh kp tr law hT hMT (by omega)) lk_RX5_170 ⟨rfl, rfl, Nat.le_of_ble_eq_true rfl, Nat.le_of_ble_eq_true rfl⟩ hP hK [0, 1] rfl 0 4 rfl rfl rfl rfl hl rfl (Nat.le_of_ble_eq_true rfl) dX5_may_43 ⟨Nat.le_of_ble_eq_true rfl, Nat.le_of_ble_eq_true rfl⟩) hS hA (fun locs hS => ?_)
              refine b_if_eq (tgt := 116) hx hb dX5_may_46 (by decide) (fun c_46 => ?_) (fun c_46 => ?_)
              · refine lv_iinc (v := nI (law + 1)) (lv' := [(7, .int (nI (law + 1))), (0, .ref (am 0)), (1, .int (nI x)), (2, .int (nI y)), (3, .int (nI z)), (4, .int (nI w)), (5, .int (nI bt)), (6, .int (nI bf))]) hx hb dX5_may_116 hl (k := 7) rfl (nI_inc _ _) (by decide) rfl (fun ls hl => ?_)
                refine lv_goto (tgt := 32) hx hb dX5_may_119 (by decide) ?_
                exact ih_2 (law + 1) (some (bt, bf)) (by omega) (ho) (by rw [hu, show 3240 - law = (3240 - (law + 1)) + 1 by omega, mayS, if_neg (by rw [c_46]; decide)]) (by omega) locs hS _ (lv_sub hl [1, 2, 3, 4, 5, 6, 7, 0] rfl)
              · have eD := drk_lt (law := law) (by omega) hx9 (show y ≤ 4096 by omega) hz9
                refine lv_iload hx hb dX5_may_49 (lv_at hl 7 rfl) ?_
                refine ro_i (roS_run (As := [.int (nI law)]) (rest := []) hx hb hml hown hts Tg_M (c_X5_aOf l D G _ law (by omega)) lk_RX5_157 ⟨rfl, rfl, Nat.le_of_ble_eq_true rfl, Nat.le_of_ble_eq_true rfl⟩ hP hK [] rfl rfl hl rfl (Nat.le_of_ble_eq_true rfl) dX5_may_51 ⟨Nat.le_of_ble_eq_true rfl, Nat.le_of_ble_eq_true rfl⟩) hS hA (fun locs hS => ?_)
                refine lv_iload hx hb dX5_may_54 (lv_at hl 7 rfl) ?_
                refine ro_i (roS_run (As := [.int (nI law)]) (rest := [.int (nI (lP law 0))]) hx hb hml hown hts Tg_M (c_X5_bOf l D G _ law (by omega)) lk_RX5_161 ⟨rfl, rfl, Nat.le_of_ble_eq_true rfl, Nat.le_of_ble_eq_true rfl⟩ hP hK [] rfl rfl hl rfl (Nat.le_of_ble_eq_true rfl) dX5_may_56 ⟨Nat.le_of_ble_eq_true rfl, Nat.le_of_ble_eq_true rfl⟩) hS hA (fun locs hS => ?_)
                refine lv_iload hx hb dX5_may_59 (lv_at hl 7 rfl) ?_
                refine ro_i (roS_run (As := [.int (nI law)]) (rest := [.int (nI (lP law 1)), .int (nI (lP law 0))]) hx hb hml hown hts Tg_M (c_X5_dOf l D G _ law (by omega)) lk_RX5_164 ⟨rfl, rfl, Nat.le_of_ble_eq_true rfl, Nat.le_of_ble_eq_true rfl⟩ hP hK [] rfl rfl hl rfl (Nat.le_of_ble_eq_true rfl) dX5_may_61 ⟨Nat.le_of_ble_eq_true rfl, Nat.le_of_ble_eq_true rfl⟩) hS hA (fun locs hS => ?_)
                refine lv_iload hx hb dX5_may_64 (lv_at hl 7 rfl) ?_
                refine ro_i (roS_run (As := [.int (nI law)]) (rest := [.int (nI (lP law 2)), .int (nI (lP law 1)), .int (nI (lP law 0))]) hx hb hml hown hts Tg_M (c_X5_tOf l D G _ law (by omega)) lk_RX5_167 ⟨rfl, rfl, Nat.le_of_ble_eq_true rfl, Nat.le_of_ble_eq_true rfl⟩ hP hK [] rfl rfl hl rfl (Nat.le_of_ble_eq_true rfl) dX5_may_66 ⟨Nat.le_of_ble_eq_true rfl, Nat.le_of_ble_eq_true rfl⟩) hS hA (fun locs hS => ?_)
                refine lv_iload_n hx hb dX5_may_69 rfl (lv_at hl 1 rfl) ?_
                refine lv_iload_n hx hb dX5_may_70 rfl (lv_at hl 2 rfl) ?_
                refine lv_iload_n hx hb dX5_may_71 rfl (lv_at hl 3 rfl) ?_
                have p0 := lP0 (show law < 3240 by omega)
                have p1 := lP1 law
                have p2 := lP2 law
                have p3 := lP3 law
                refine ro_i (roS_run (As := [.int (nI (lP law 0)), .int (nI (lP law 1)), .int (nI (lP law 2)), .int (nI (lP law 3)), .int (nI x), .int (nI y), .int (nI z)]) (rest := []) hx hb hml hown hts Tg_M (c_X5_byLaw l D G _ (lP law 0) (lP law 1) (lP law 2) (lP law 3) x y z (by omega) (by omega) (by omega) (by omega) (by omega) (by omega) (by omega)) lk_RX5_101 ⟨rfl, rfl, Nat.le_of_ble_eq_true rfl, Nat.le_of_ble_eq_true rfl⟩ hP hK [] rfl rfl hl rfl (Nat.le_of_ble_eq_true rfl) dX5_may_72 ⟨Nat.le_of_ble_eq_true rfl, Nat.le_of_ble_eq_true rfl⟩) hS hA (fun locs hS => ?_)
                refine lv_istore (lv' := [(8, .int (nI (drk law x y z))), (0, .ref (am 0)), (1, .int (nI x)), (2, .int (nI y)), (3, .int (nI z)), (4, .int (nI w)), (5, .int (nI bt)), (6, .int (nI bf)), (7, .int (nI law))]) hx hb dX5_may_75 hl (by decide) rfl (fun ls hl => ?_)
                refine lv_iload hx hb dX5_may_77 (lv_at hl 6 rfl) ?_
                refine lv_bipush (v := (-9)) hx hb dX5_may_79 (by decide) ?_
                refine lv_icmp_eq (tgt := 91) hx hb dX5_may_81 (by decide) (fun c_81 => ?_) (fun c_81 => ?_)
                · exact absurd c_81 (nI_ne9 (by omega))
                · refine lv_iload hx hb dX5_may_84 (lv_at hl 0 rfl) ?_
                  refine lv_iload hx hb dX5_may_86 (lv_at hl 6 rfl) ?_
                  refine n_icmp_ge (tgt := 96) hx hb dX5_may_88 (by decide) (by omega) (by omega) (fun c_88 => ?_) (fun c_88 => ?_)
                  · refine lv_iload hx hb dX5_may_96 (lv_at hl 6 rfl) ?_
                    refine n_tope (show nI (bt) = nI (Nat.min bt (drk law x y z)) from congrArg nI ((Nat.min_eq_left (by omega)).symm)) ?_
                    refine lv_istore (lv' := [(5, .int (nI (Nat.min bt (drk law x y z)))), (8, .int (nI (drk law x y z))), (0, .ref (am 0)), (1, .int (nI x)), (2, .int (nI y)), (3, .int (nI z)), (4, .int (nI w)), (6, .int (nI bf)), (7, .int (nI law))]) hx hb dX5_may_98 hl (by decide) rfl (fun ls hl => ?_)
                    refine lv_iload hx hb dX5_may_100 (lv_at hl 1 rfl) ?_
                    refine lv_iload hx hb dX5_may_102 (lv_at hl 7 rfl) ?_
                    refine n_icmp_le (tgt := 112) hx hb dX5_may_104 (by decide) (by omega) (by omega) (fun c_104 => ?_) (fun c_104 => ?_)
                    · refine lv_iload hx hb dX5_may_112 (lv_at hl 7 rfl) ?_
                      refine n_tope (show nI (bf) = nI (Nat.max bf (drk law x y z)) from congrArg nI ((Nat.max_eq_left (by omega)).symm)) ?_
                      refine lv_istore (lv' := [(6, .int (nI (Nat.max bf (drk law x y z)))), (5, .int (nI (Nat.min bt (drk law x y z)))), (8, .int (nI (drk law x y z))), (0, .ref (am 0)), (1, .int (nI x)), (2, .int (nI y)), (3, .int (nI z)), (4, .int (nI w)), (7, .int (nI law))]) hx hb dX5_may_114 hl (by decide) rfl (fun ls hl => ?_)
                      refine lv_iinc (v := nI (law + 1)) (lv' := [(7, .int (nI (law + 1))), (6, .int (nI (Nat.max bf (drk law x y z)))), (5, .int (nI (Nat.min bt (drk law x y z)))), (8, .int (nI (drk law x y z))), (0, .ref (am 0)), (1, .int (nI x)), (2, .int (nI y)), (3, .int (nI z)), (4, .int (nI w))]) hx hb dX5_may_116 hl (k := 8) rfl (nI_inc _ _) (by decide) rfl (fun ls hl => ?_)
                      refine lv_goto (tgt := 32) hx hb dX5_may_119 (by decide) ?_
                      exact ih_2 (law + 1) (some (Nat.min bt (drk law x y z), Nat.max bf (drk law x y z))) (by omega) (⟨Nat.le_trans (Nat.min_le_left _ _) ho1, Nat.max_le.mpr ⟨ho2, by omega⟩⟩) (by rw [hu, show 3240 - law = (3240 - (law + 1)) + 1 by omega, mayS, if_pos c_46]) (by omega) locs hS _ (lv_sub hl [4, 5, 6, 7, 8, 2, 1, 0] rfl)
                    · refine lv_iload hx hb dX5_may_107 (lv_at hl 1 rfl) ?_
                      refine lv_goto (tgt := 114) hx hb dX5_may_109 (by decide) ?_
                      refine n_tope (show nI (drk law x y z) = nI (Nat.max bf (drk law x y z)) from congrArg nI ((Nat.max_eq_right (by omega)).symm)) ?_
                      refine lv_istore (lv' := [(6, .int (nI (Nat.max bf (drk law x y z)))), (5, .int (nI (Nat.min bt (drk law x y z)))), (8, .int (nI (drk law x y z))), (0, .ref (am 0)), (1, .int (nI x)), (2, .int (nI y)), (3, .int (nI z)), (4, .int (nI w)), (7, .int (nI law))]) hx hb dX5_may_114 hl (by decide) rfl (fun ls hl => ?_)
                      refine lv_iinc (v := nI (law + 1)) (lv' := [(7, .int (nI (law + 1))), (6, .int (nI (Nat.max bf (drk law x y z)))), (5, .int (nI (Nat.min bt (drk law x y z)))), (8, .int (nI (drk law x y z))), (0, .ref (am 0)), (1, .int (nI x)), (2, .int (nI y)), (3, .int (nI z)), (4, .int (nI w))]) hx hb dX5_may_116 hl (k := 8) rfl (nI_inc _ _) (by decide) rfl (fun ls hl => ?_)
                      refine lv_goto (tgt := 32) hx hb dX5_may_119 (by decide) ?_
                      exact ih_2 (law + 1) (some (Nat.min bt (drk law x y z), Nat.max bf (drk law x y z))) (by omega) (⟨Nat.le_trans (Nat.min_le_left _ _) ho1, Nat.max_le.mpr ⟨ho2, by omega⟩⟩) (by rw [hu, show 3240 - law = (3240 - (law + 1)) + 1 by omega, mayS, if_pos c_46]) (by omega) locs hS _ (lv_sub hl [4, 5, 6, 7, 8, 2, 1, 0] rfl)
                  · refine lv_iload hx hb dX5_may_91 (lv_at hl 0 rfl) ?_
                    refine lv_goto (tgt := 98) hx hb dX5_may_93 (by decide) ?_
                    refine n_tope (show nI (drk law x y z) = nI (Nat.min bt (drk law x y z)) from congrArg nI ((Nat.min_eq_right (by omega)).symm)) ?_
                    refine lv_istore (lv' := [(5, .int (nI (Nat.min bt (drk law x y z)))), (8, .int (nI (drk law x y z))), (0, .ref (am 0)), (1, .int (nI x)), (2, .int (nI y)), (3, .int (nI z)), (4, .int (nI w)), (6, .int (nI bf)), (7, .int (nI law))]) hx hb dX5_may_98 hl (by decide) rfl (fun ls hl => ?_)
                    refine lv_iload hx hb dX5_may_100 (lv_at hl 1 rfl) ?_
                    refine lv_iload hx hb dX5_may_102 (lv_at hl 7 rfl) ?_
                    refine n_icmp_le (tgt := 112) hx hb dX5_may_104 (by decide) (by omega) (by omega) (fun c_104 => ?_) (fun c_104 => ?_)
                    · refine lv_iload hx hb dX5_may_112 (lv_at hl 7 rfl) ?_
                      refine n_tope (show nI (bf) = nI (Nat.max bf (drk law x y z)) from congrArg nI ((Nat.max_eq_left (by omega)).symm)) ?_
                      refine lv_istore (lv' := [(6, .int (nI (Nat.max bf (drk law x y z)))), (5, .int (nI (Nat.min bt (drk law x y z)))), (8, .int (nI (drk law x y z))), (0, .ref (am 0)), (1, .int (nI x)), (2, .int (nI y)), (3, .int (nI z)), (4, .int (nI w)), (7, .int (nI law))]) hx hb dX5_may_114 hl (by decide) rfl (fun ls hl => ?_)
                      refine lv_iinc (v := nI (law + 1)) (lv' := [(7, .int (nI (law + 1))), (6, .int (nI (Nat.max bf (drk law x y z)))), (5, .int (nI (Nat.min bt (drk law x y z)))), (8, .int (nI (drk law x y z))), (0, .ref (am 0)), (1, .int (nI x)), (2, .int (nI y)), (3, .int (nI z)), (4, .int (nI w))]) hx hb dX5_may_116 hl (k := 8) rfl (nI_inc _ _) (by decide) rfl (fun ls hl => ?_)
                      refine lv_goto (tgt := 32) hx hb dX5_may_119 (by decide) ?_
                      exact ih_2 (law + 1) (some (Nat.min bt (drk law x y z), Nat.max bf (drk law x y z))) (by omega) (⟨Nat.le_trans (Nat.min_le_left _ _) ho1, Nat.max_le.mpr ⟨ho2, by omega⟩⟩) (by rw [hu, show 3240 - law = (3240 - (law + 1)) + 1 by omega, mayS, if_pos c_46]) (by omega) locs hS _ (lv_sub hl [4, 5, 6, 7, 8, 2, 1, 0] rfl)
                    · refine lv_iload hx hb dX5_may_107 (lv_at hl 1 rfl) ?_
                      refine lv_goto (tgt := 114) hx hb dX5_may_109 (by decide) ?_
                      refine n_tope (show nI (drk law x y z) = nI (Nat.max bf (drk law x y z)) from congrArg nI ((Nat.max_eq_right (by omega)).symm)) ?_
                      refine lv_istore (lv' := [(6, .int (nI (Nat.max bf (drk law x y z)))), (5, .int (nI (Nat.min bt (drk law x y z)))), (8, .int (nI (drk law x y z))), (0, .ref (am 0)), (1, .int (nI x)), (2, .int (nI y)), (3, .int (nI z)), (4, .int (nI w)), (7, .int (nI law))]) hx hb dX5_may_114 hl (by decide) rfl (fun ls hl => ?_)
                      refine lv_iinc (v := nI (law + 1)) (lv' := [(7, .int (nI (law + 1))), (6, .int (nI (Nat.max bf (drk law x y z)))), (5, .int (nI (Nat.min bt (drk law x y z)))), (8, .int (nI (drk law x y z))), (0, .ref (am 0)), (1, .int (nI x)), (2, .int (nI y)), (3, .int (nI z)), (4, .int (nI w))]) hx hb dX5_may_116 hl (k := 8) rfl (nI_inc _ _) (by decide) rfl (fun ls hl => ?_)
                      refine lv_goto (tgt := 32) hx hb dX5_may_119 (by decide) ?_
                      exact ih_2 (law + 1) (some (Nat.min bt (drk law x y z), Nat.max bf (drk law x y z))) (by omega) (⟨Nat.le_trans (Nat.min_le_left _ _) ho1, Nat.max_le.mpr ⟨ho2, by omega⟩⟩) (by rw [hu, show 3240 - law = (3240 - (law + 1)) + 1 by omega, mayS, if_pos c_46]) (by omega) locs hS _ (lv_sub hl [4, 5, 6, 7, 8, 2, 1, 0] rfl)
      exact loop_1 (3240 - 0 + 1) (0) (none) (by omega) (trivial) (rfl) (Nat.lt_succ_self _) locs hS _ (lv_sub hl [3, 4, 5, 6, 7, 2, 1, 0] rfl)
    · have e_w := ir_no c_16
      refine lv_iconst (v := (-1)) hx hb dX5_may_19 (by decide) ?_
      exact ro_iret hx hb hr hlocks hS dX5_may_20 (by simp only [spMay, e_T, e_w, Option.elim])

set_option maxHeartbeats 4000000 in
set_option maxRecDepth 100000 in
theorem c_X5_bribed (l : Launch) (D : va_G) (G : ClassId × ClassId × ClassId) (H0 : Heap) (am n : Nat → Nat) (f : Nat → Nat → Nat) (k : Nat → Nat) (g : Nat → Nat → Nat) (j : Nat → Nat) (tx : Nat → Int32) (fl : Int32) (hh : Bool) (kp : Nat → Bool) (tr : Int64) (q : Nat) (hI : XI n f k q) (hM : RQ n f k g) : Met l yX5_bribed (wM yX5_bribed cX5_bribed 5 (some .int)) (rmD 4) (rP D G [.ref (am 0)] [(am 0, .inr (4, [.long (tr), .ref (am 1), .int (nI (j 0)), .ref (am 2), .ref (am 3), .ref (am 4), .ref (am 5), .ref (am 6), .ref (am 7), .ref (am 8), .ref (am 9), .int (nI (j 1)), .int (nI (j 2)), .int (nI (j 3)), .int (nI (j 4)), .int (fl), .int (bI (hh)), .ref (am 10), .ref (am 11), .ref (am 12), .int (nI (j 5))])), (am 3, .inl (G.1, 10, .inl (nF (g 3)))), (am 5, .inl (G.1, 12, .inl (nF (g 5)))), (am 6, .inl (G.1, 12, .inl (nF (g 6)))), (am 7, .inl (G.1, 12, .inl (nF (g 7)))), (am 8, .inl (G.1, 12, .inl (nF (g 8)))), (am 10, .inl (G.1, 240, .inl (nF (g 10))))] H0) (rQi (spBribed n f) H0) 0 0 (rF H0) := by
  refine ro_start (Qc := fun H0 => (rQi (spBribed n f) H0)) (by decide) (Nat.le_of_ble_eq_true rfl) ?_
  intro p e s m args below meth c hx hb hr hts hown hlocks hml hP hK hA hH0 ls hl locs hS
  have hl : lv_has ls 5 [(0, .ref (am 0))] := hl
  have hI0 := hI
  have hM0 := hM
  obtain ⟨i4, i5, i6, iq, iw, il, i7, i8, ih9, ik, iF⟩ := hI
  obtain ⟨m2, m3, m4, m5, m0, m6, m7, m8⟩ := hM
  refine lv_iconst (v := nI (0)) hx hb dX5_bribed_0 (by decide) ?_
  refine lv_istore_n (lv' := [(1, .int (nI 0)), (0, .ref (am 0))]) hx hb dX5_bribed_1 rfl hl (by decide) rfl (fun ls hl => ?_)
  refine lv_iconst (v := nI (0)) hx hb dX5_bribed_2 (by decide) ?_
  refine lv_istore_n (lv' := [(2, .int (nI 0)), (1, .int (nI 0)), (0, .ref (am 0))]) hx hb dX5_bribed_3 rfl hl (by decide) rfl (fun ls hl => ?_)
  have loop_1 : ∀ (fuel : Nat) (i : Nat) (bb : Int32), (i ≤ n 8) → (brS f (n 8) 0 (nI 0) = brS f (n 8 - i) i bb) → (n 8 - i) < fuel → ∀ (locs : List Loc), va_S (rF s.heap) s.heap s.heap locs → ∀ (ls : Array Slot), lv_has ls 5 [(0, .ref (am 0)), (1, .int (bb)), (2, .int (nI i))] → W p l e (rmD 4) s m args below meth c s.heap locs 0 0 (MQ below (rQi (spBribed n f) s.heap) args s 0 0 (rF s.heap)) (F0 m 4 ls []) := by
    intro fuel
    induction fuel with
    | zero => intro i bb hi1 hu hfu; exact absurd hfu (Nat.not_lt_zero _)
    | succ fuel ih_2 =>
      intro i bb hi1 hu hfu locs hS ls hl
      refine lv_iload_n hx hb dX5_bribed_4 rfl (lv_at hl 2 rfl) ?_
      refine lv_aload_n hx hb dX5_bribed_5 rfl (lv_at hl 0 rfl) ?_
      refine va_get (D := D) (ci := 4) (v := .ref (am 10)) (C := RX5) (T := TX5) (N := 21) hx hb hts (iX5) hown hK hP 0 rfl rfl 17 (by decide) (hts _ (List.mem_cons_of_mem _ wt_617)) (fun _ h9 => h9) rfl dX5_bribed_6 ?_
      refine lv_bipush (v := nI (7)) hx hb dX5_bribed_9 (by decide) ?_
      refine n_iald hx hb hK hP 6 (f := g 10) rfl (by omega) dX5_bribed_11 ?_
      refine n_tope (show nI (g 10 7) = nI (n 8) from congrArg nI (m7)) ?_
      refine n_icmp_ge (tgt := 118) hx hb dX5_bribed_12 (by decide) (by omega) (by omega) (fun c_12 => ?_) (fun c_12 => ?_)
      · refine lv_iload_n hx hb dX5_bribed_118 rfl (lv_at hl 1 rfl) ?_
        exact ro_iret hx hb hr hlocks hS dX5_bribed_119 (by rw [spBribed, show (0 : Int32) = nI 0 from rfl, hu, show n 8 - i = 0 by omega, brS])
      · have e0 := iF i (by omega)
        have e1 := il _ e0.1
        have e3 := iw _ e0.2.2.2.1
        have e2 := drk_lt e1 e3 (show f 8 (6 * i + 1) ≤ 4096 by omega) e0.2.2.1
        refine lv_bipush (v := nI (8)) hx hb dX5_bribed_15 (by decide) ?_
        refine lv_bipush (v := nI (6)) hx hb dX5_bribed_17 (by decide) ?_
        refine lv_iload_n hx hb dX5_bribed_19 rfl (lv_at hl 2 rfl) ?_
        refine n_imul hx hb dX5_bribed_20 ?_
        refine n_iadd hx hb dX5_bribed_21 ?_
        refine lv_istore_n (lv' := [(3, .int (nI (8 + (6 * i)))), (0, .ref (am 0)), (1, .int (bb)), (2, .int (nI i))]) hx hb dX5_bribed_22 rfl hl (by decide) rfl (fun ls hl => ?_)
        refine lv_aload_n hx hb dX5_bribed_23 rfl (lv_at hl 1 rfl) ?_
        refine va_get (D := D) (ci := 4) (v := .ref (am 10)) (C := RX5) (T := TX5) (N := 21) hx hb hts (iX5) hown hK hP 0 rfl rfl 17 (by decide) (hts _ (List.mem_cons_of_mem _ wt_617)) (fun _ h9 => h9) rfl dX5_bribed_24 ?_
        refine lv_iload_n hx hb dX5_bribed_27 rfl (lv_at hl 0 rfl) ?_
        refine lv_iconst (v := nI (5)) hx hb dX5_bribed_28 (by decide) ?_
        refine n_iadd hx hb dX5_bribed_29 ?_
        refine n_iald hx hb hK hP 6 (f := g 10) rfl (by omega) dX5_bribed_30 ?_
        refine n_tope (show nI (g 10 ((8 + (6 * i)) + 5)) = nI (f 8 (6 * i + 5)) from congrArg nI ((congrArg (g 10) (show 8 + 6 * i + 5 = 8 + (6 * i + 5) by omega)).trans (m8 (6 * i + 5) (by omega)))) ?_
        refine lv_iconst (v := nI (1)) hx hb dX5_bribed_31 (by decide) ?_
        refine n_icmp_ne (tgt := 89) hx hb dX5_bribed_32 (by decide) (by omega) (by omega) (fun c_32 => ?_) (fun c_32 => ?_)
        · refine lv_iconst (v := nI (0)) hx hb dX5_bribed_89 (by decide) ?_
          refine lv_istore (lv' := [(4, .int (nI 0)), (3, .int (nI (8 + (6 * i)))), (0, .ref (am 0)), (1, .int (bb)), (2, .int (nI i))]) hx hb dX5_bribed_90 hl (by decide) rfl (fun ls hl => ?_)
          refine lv_iload_n hx hb dX5_bribed_92 rfl (lv_at hl 3 rfl) ?_
          refine lv_iload hx hb dX5_bribed_93 (lv_at hl 0 rfl) ?_
          refine n_if_eq (tgt := 109) hx hb dX5_bribed_95 (by decide) (by omega) (fun c_95 => ?_) (fun c_95 => ?_)
          · refine lv_iconst (v := nI (0)) hx hb dX5_bribed_109 (by decide) ?_
            refine lv_ior hx hb dX5_bribed_110 ?_
            refine n_tope (show ((bb) ||| nI (0)) = bb from Int32.or_zero) ?_
            refine lv_istore_n (lv' := [(1, .int (bb)), (4, .int (nI 0)), (3, .int (nI (8 + (6 * i)))), (0, .ref (am 0)), (2, .int (nI i))]) hx hb dX5_bribed_111 rfl hl (by decide) rfl (fun ls hl => ?_)
            refine lv_iinc (v := nI (i + 1)) (lv' := [(2, .int (nI (i + 1))), (1, .int (bb)), (4, .int (nI 0)), (3, .int (nI (8 + (6 * i)))), (0, .ref (am 0))]) hx hb dX5_bribed_112 hl (k := 4) rfl (nI_inc _ _) (by decide) rfl (fun ls hl => ?_)
            refine lv_goto (tgt := 4) hx hb dX5_bribed_115 (by decide) ?_
            exact ih_2 (i + 1) ((bb)) (by omega) (by rw [hu, show n 8 - i = (n 8 - (i + 1)) + 1 by omega, brS, if_neg (fun z => c_32 z.1)]) (by omega) locs hS _ (lv_sub hl [4, 1, 0] rfl)
          · exact absurd c_95 (by decide)
        · refine lv_aload_n hx hb dX5_bribed_35 rfl (lv_at hl 1 rfl) ?_
          refine lv_aload_n hx hb dX5_bribed_36 rfl (lv_at hl 1 rfl) ?_
          refine va_get (D := D) (ci := 4) (v := .ref (am 10)) (C := RX5) (T := TX5) (N := 21) hx hb hts (iX5) hown hK hP 0 rfl rfl 17 (by decide) (hts _ (List.mem_cons_of_mem _ wt_617)) (fun _ h9 => h9) rfl dX5_bribed_37 ?_
          refine lv_iload_n hx hb dX5_bribed_40 rfl (lv_at hl 0 rfl) ?_
          refine n_iald hx hb hK hP 6 (f := g 10) rfl (by omega) dX5_bribed_41 ?_
          refine n_tope (show nI (g 10 (8 + (6 * i))) = nI (f 8 (6 * i + 0)) from congrArg nI (m8 (6 * i + 0) (by omega))) ?_
          refine lv_aload_n hx hb dX5_bribed_42 rfl (lv_at hl 1 rfl) ?_
          refine va_get (D := D) (ci := 4) (v := .ref (am 3)) (C := RX5) (T := TX5) (N := 21) hx hb hts (iX5) hown hK hP 0 rfl rfl 4 (by decide) (hts _ (List.mem_cons_of_mem _ wt_604)) (fun _ h9 => h9) rfl dX5_bribed_43 ?_
          refine lv_aload_n hx hb dX5_bribed_46 rfl (lv_at hl 1 rfl) ?_
          refine va_get (D := D) (ci := 4) (v := .ref (am 10)) (C := RX5) (T := TX5) (N := 21) hx hb hts (iX5) hown hK hP 0 rfl rfl 17 (by decide) (hts _ (List.mem_cons_of_mem _ wt_617)) (fun _ h9 => h9) rfl dX5_bribed_47 ?_
          refine lv_iload_n hx hb dX5_bribed_50 rfl (lv_at hl 0 rfl) ?_
          refine lv_iconst (v := nI (3)) hx hb dX5_bribed_51 (by decide) ?_
          refine n_iadd hx hb dX5_bribed_52 ?_
          refine n_iald hx hb hK hP 6 (f := g 10) rfl (by omega) dX5_bribed_53 ?_
          refine n_tope (show nI (g 10 ((8 + (6 * i)) + 3)) = nI (f 8 (6 * i + 3)) from congrArg nI ((congrArg (g 10) (show 8 + 6 * i + 3 = 8 + (6 * i + 3) by omega)).trans (m8 (6 * i + 3) (by omega)))) ?_
          refine n_iald hx hb hK hP 1 (f := g 3) rfl (by omega) dX5_bribed_54 ?_
          refine n_tope (show nI (g 3 (f 8 (6 * i + 3))) = nI (f 4 (f 8 (6 * i + 3))) from congrArg nI (m3 _ e0.2.2.2.1)) ?_
          refine lv_aload_n hx hb dX5_bribed_55 rfl (lv_at hl 1 rfl) ?_
          refine va_get (D := D) (ci := 4) (v := .ref (am 10)) (C := RX5) (T := TX5) (N := 21) hx hb hts (iX5) hown hK hP 0 rfl rfl 17 (by decide) (hts _ (List.mem_cons_of_mem _ wt_617)) (fun _ h9 => h9) rfl dX5_bribed_56 ?_
          refine lv_iload_n hx hb dX5_bribed_59 rfl (lv_at hl 0 rfl) ?_
          refine lv_iconst (v := nI (1)) hx hb dX5_bribed_60 (by decide) ?_
          refine n_iadd hx hb dX5_bribed_61 ?_
          refine n_iald hx hb hK hP 6 (f := g 10) rfl (by omega) dX5_bribed_62 ?_
          refine n_tope (show nI (g 10 ((8 + (6 * i)) + 1)) = nI (f 8 (6 * i + 1)) from congrArg nI ((congrArg (g 10) (show 8 + 6 * i + 1 = 8 + (6 * i + 1) by omega)).trans (m8 (6 * i + 1) (by omega)))) ?_
          refine lv_aload_n hx hb dX5_bribed_63 rfl (lv_at hl 1 rfl) ?_
          refine va_get (D := D) (ci := 4) (v := .ref (am 10)) (C := RX5) (T := TX5) (N := 21) hx hb hts (iX5) hown hK hP 0 rfl rfl 17 (by decide) (hts _ (List.mem_cons_of_mem _ wt_617)) (fun _ h9 => h9) rfl dX5_bribed_64 ?_
          refine lv_iload_n hx hb dX5_bribed_67 rfl (lv_at hl 0 rfl) ?_
          refine lv_iconst (v := nI (2)) hx hb dX5_bribed_68 (by decide) ?_
          refine n_iadd hx hb dX5_bribed_69 ?_
          refine n_iald hx hb hK hP 6 (f := g 10) rfl (by omega) dX5_bribed_70 ?_
          refine n_tope (show nI (g 10 ((8 + (6 * i)) + 2)) = nI (f 8 (6 * i + 2)) from congrArg nI ((congrArg (g 10) (show 8 + 6 * i + 2 = 8 + (6 * i + 2) by omega)).trans (m8 (6 * i + 2) (by omega)))) ?_
          refine ro_i (roV_run (As := [.int (nI (f 8 (6 * i + 0))), .int (nI (f 4 (f 8 (6 * i + 3)))), .int (nI (f 8 (6 * i + 1))), .int (nI (f 8 (6 * i + 2)))]) (rest := []) hx hb hml hown hts Tg_M (c_X5_cupsOf l D G _ am n f k g j tx fl hh kp tr (f 8 (6 * i + 0)) (f 4 (f 8 (6 * i + 3))) (f 8 (6 * i + 1)) (f 8 (6 * i + 2)) (by omega) il m5 (by omega) (by omega) (by omega) (by omega)) lk_RX5_112 ⟨rfl, rfl, Nat.le_of_ble_eq_true rfl, Nat.le_of_ble_eq_true rfl⟩ hP hK [0, 2, 3, 4, 5] rfl 0 4 rfl rfl rfl rfl hl rfl (Nat.le_of_ble_eq_true rfl) dX5_bribed_71 ⟨Nat.le_of_ble_eq_true rfl, Nat.le_of_ble_eq_true rfl⟩) hS hA (fun locs hS => ?_)
          refine lv_aload_n hx hb dX5_bribed_74 rfl (lv_at hl 1 rfl) ?_
          refine va_get (D := D) (ci := 4) (v := .ref (am 10)) (C := RX5) (T := TX5) (N := 21) hx hb hts (iX5) hown hK hP 0 rfl rfl 17 (by decide) (hts _ (List.mem_cons_of_mem _ wt_617)) (fun _ h9 => h9) rfl dX5_bribed_75 ?_
          refine lv_iload_n hx hb dX5_bribed_78 rfl (lv_at hl 0 rfl) ?_
          refine lv_iconst (v := nI (4)) hx hb dX5_bribed_79 (by decide) ?_
          refine n_iadd hx hb dX5_bribed_80 ?_
          refine n_iald hx hb hK hP 6 (f := g 10) rfl (by omega) dX5_bribed_81 ?_
          refine n_tope (show nI (g 10 ((8 + (6 * i)) + 4)) = nI (f 8 (6 * i + 4)) from congrArg nI ((congrArg (g 10) (show 8 + 6 * i + 4 = 8 + (6 * i + 4) by omega)).trans (m8 (6 * i + 4) (by omega)))) ?_
          refine n_icmp_eq (tgt := 89) hx hb dX5_bribed_82 (by decide) (by omega) (by omega) (fun c_82 => ?_) (fun c_82 => ?_)
          · refine lv_iconst (v := nI (0)) hx hb dX5_bribed_89 (by decide) ?_
            refine lv_istore (lv' := [(4, .int (nI 0)), (3, .int (nI (8 + (6 * i)))), (0, .ref (am 0)), (1, .int (bb)), (2, .int (nI i))]) hx hb dX5_bribed_90 hl (by decide) rfl (fun ls hl => ?_)
            refine lv_iload_n hx hb dX5_bribed_92 rfl (lv_at hl 3 rfl) ?_
            refine lv_iload hx hb dX5_bribed_93 (lv_at hl 0 rfl) ?_
            refine n_if_eq (tgt := 109) hx hb dX5_bribed_95 (by decide) (by omega) (fun c_95 => ?_) (fun c_95 => ?_)
            · refine lv_iconst (v := nI (0)) hx hb dX5_bribed_109 (by decide) ?_
              refine lv_ior hx hb dX5_bribed_110 ?_
              refine n_tope (show ((bb) ||| nI (0)) = bb from Int32.or_zero) ?_
              refine lv_istore_n (lv' := [(1, .int (bb)), (4, .int (nI 0)), (3, .int (nI (8 + (6 * i)))), (0, .ref (am 0)), (2, .int (nI i))]) hx hb dX5_bribed_111 rfl hl (by decide) rfl (fun ls hl => ?_)
              refine lv_iinc (v := nI (i + 1)) (lv' := [(2, .int (nI (i + 1))), (1, .int (bb)), (4, .int (nI 0)), (3, .int (nI (8 + (6 * i)))), (0, .ref (am 0))]) hx hb dX5_bribed_112 hl (k := 4) rfl (nI_inc _ _) (by decide) rfl (fun ls hl => ?_)
              refine lv_goto (tgt := 4) hx hb dX5_bribed_115 (by decide) ?_
              exact ih_2 (i + 1) ((bb)) (by omega) (by rw [hu, show n 8 - i = (n 8 - (i + 1)) + 1 by omega, brS, if_neg (fun z => z.2 c_82)]) (by omega) locs hS _ (lv_sub hl [4, 1, 0] rfl)
            · exact absurd c_95 (by decide)
          · refine lv_iconst (v := nI (1)) hx hb dX5_bribed_85 (by decide) ?_
            refine lv_goto (tgt := 90) hx hb dX5_bribed_86 (by decide) ?_
            refine lv_istore (lv' := [(4, .int (nI 1)), (3, .int (nI (8 + (6 * i)))), (0, .ref (am 0)), (1, .int (bb)), (2, .int (nI i))]) hx hb dX5_bribed_90 hl (by decide) rfl (fun ls hl => ?_)
            refine lv_iload_n hx hb dX5_bribed_92 rfl (lv_at hl 3 rfl) ?_
            refine lv_iload hx hb dX5_bribed_93 (lv_at hl 0 rfl) ?_
            refine n_if_eq (tgt := 109) hx hb dX5_bribed_95 (by decide) (by omega) (fun c_95 => ?_) (fun c_95 => ?_)
            · exact absurd c_95 (by decide)
            · refine lv_iconst (v := nI (1)) hx hb dX5_bribed_98 (by decide) ?_
              refine lv_aload_n hx hb dX5_bribed_99 rfl (lv_at hl 2 rfl) ?_
              refine va_get (D := D) (ci := 4) (v := .ref (am 10)) (C := RX5) (T := TX5) (N := 21) hx hb hts (iX5) hown hK hP 0 rfl rfl 17 (by decide) (hts _ (List.mem_cons_of_mem _ wt_617)) (fun _ h9 => h9) rfl dX5_bribed_100 ?_
              refine lv_iload_n hx hb dX5_bribed_103 rfl (lv_at hl 1 rfl) ?_
              refine n_iald hx hb hK hP 6 (f := g 10) rfl (by omega) dX5_bribed_104 ?_
              refine n_tope (show nI (g 10 (8 + (6 * i))) = nI (f 8 (6 * i + 0)) from congrArg nI (m8 (6 * i + 0) (by omega))) ?_
              refine lv_ishl hx hb dX5_bribed_105 ?_
              refine lv_goto (tgt := 110) hx hb dX5_bribed_106 (by decide) ?_
              refine lv_ior hx hb dX5_bribed_110 ?_
              refine lv_istore_n (lv' := [(1, .int ((bb) ||| (nI (1) <<< (nI (f 8 (6 * i + 0)) &&& 31)))), (4, .int (nI 1)), (3, .int (nI (8 + (6 * i)))), (0, .ref (am 0)), (2, .int (nI i))]) hx hb dX5_bribed_111 rfl hl (by decide) rfl (fun ls hl => ?_)
              refine lv_iinc (v := nI (i + 1)) (lv' := [(2, .int (nI (i + 1))), (1, .int ((bb) ||| (nI (1) <<< (nI (f 8 (6 * i + 0)) &&& 31)))), (4, .int (nI 1)), (3, .int (nI (8 + (6 * i)))), (0, .ref (am 0))]) hx hb dX5_bribed_112 hl (k := 4) rfl (nI_inc _ _) (by decide) rfl (fun ls hl => ?_)
              refine lv_goto (tgt := 4) hx hb dX5_bribed_115 (by decide) ?_
              exact ih_2 (i + 1) (((bb) ||| (nI (1) <<< (nI (f 8 (6 * i + 0)) &&& 31)))) (by omega) (by rw [hu, show n 8 - i = (n 8 - (i + 1)) + 1 by omega, brS, if_pos ⟨c_32, c_82⟩]) (by omega) locs hS _ (lv_sub hl [4, 1, 0] rfl)
  exact loop_1 (n 8 - 0 + 1) (0) (nI 0) (by omega) (rfl) (Nat.lt_succ_self _) locs hS _ (lv_sub hl [2, 1, 0] rfl)

set_option maxHeartbeats 4000000 in
set_option maxRecDepth 100000 in
theorem c_X5_memory (l : Launch) (D : va_G) (G : ClassId × ClassId × ClassId) (H0 : Heap) (am n : Nat → Nat) (f : Nat → Nat → Nat) (k : Nat → Nat) (g : Nat → Nat → Nat) (j : Nat → Nat) (tx : Nat → Int32) (fl : Int32) (hh : Bool) (kp : Nat → Bool) (tr : Int64) (q : Nat) (a a2 a3 a4 : Int32) (hI : XI n f k q) (hM : RQ n f k g) : Met l yX5_memory (wM yX5_memory cX5_memory 9 (some .int)) (rmD 4) (rP D G [.ref (am 0), .int (a), .int (a2), .int (a3), .int (a4)] [(am 0, .inr (4, [.long (tr), .ref (am 1), .int (nI (j 0)), .ref (am 2), .ref (am 3), .ref (am 4), .ref (am 5), .ref (am 6), .ref (am 7), .ref (am 8), .ref (am 9), .int (nI (j 1)), .int (nI (j 2)), .int (nI (j 3)), .int (nI (j 4)), .int (fl), .int (bI (hh)), .ref (am 10), .ref (am 11), .ref (am 12), .int (nI (j 5))])), (am 4, .inl (G.1, 2, .inl (nF (g 4)))), (am 5, .inl (G.1, 12, .inl (nF (g 5)))), (am 6, .inl (G.1, 12, .inl (nF (g 6)))), (am 7, .inl (G.1, 12, .inl (nF (g 7)))), (am 8, .inl (G.1, 12, .inl (nF (g 8)))), (am 10, .inl (G.1, 240, .inl (nF (g 10))))] H0) (rQi (spMem n f k a a2 a3 a4) H0) 0 0 (rF H0) := by
  refine ro_start (Qc := fun H0 => (rQi (spMem n f k a a2 a3 a4) H0)) (by decide) (Nat.le_of_ble_eq_true rfl) ?_
  intro p e s m args below meth c hx hb hr hts hown hlocks hml hP hK hA hH0 ls hl locs hS
  have hl : lv_has ls 9 [(0, .ref (am 0)), (1, .int (a)), (2, .int (a2)), (3, .int (a3)), (4, .int (a4))] := hl
  have hI0 := hI
  have hM0 := hM
  obtain ⟨i4, i5, i6, iq, iw, il, i7, i8, ih9, ik, iF⟩ := hI
  obtain ⟨m2, m3, m4, m5, m0, m6, m7, m8⟩ := hM
  refine lv_aload_n hx hb dX5_memory_0 rfl (lv_at hl 0 rfl) ?_
  refine lv_iload_n hx hb dX5_memory_1 rfl (lv_at hl 1 rfl) ?_
  refine ro_i (roV_run (As := [.int (a)]) (rest := []) hx hb hml hown hts Tg_M (c_X5_isTaster l D G _ am n f k g j tx fl hh kp tr q (a) hI0 hM0) lk_RX5_109 ⟨rfl, rfl, Nat.le_of_ble_eq_true rfl, Nat.le_of_ble_eq_true rfl⟩ hP hK [0, 1] rfl 0 4 rfl rfl rfl rfl hl rfl (Nat.le_of_ble_eq_true rfl) dX5_memory_2 ⟨Nat.le_of_ble_eq_true rfl, Nat.le_of_ble_eq_true rfl⟩) hS hA (fun locs hS => ?_)
  refine b_if_eq (tgt := 39) hx hb dX5_memory_5 (by decide) (fun c_5 => ?_) (fun c_5 => ?_)
  · have e_t := ix_no c_5
    refine lv_iconst (v := (-1)) hx hb dX5_memory_39 (by decide) ?_
    exact ro_iret hx hb hr hlocks hS dX5_memory_40 (by simp only [spMem, e_t, Option.elim])
  · obtain ⟨t, h_t, rfl⟩ := hasB_N (by omega) c_5
    have e_t := ix_yes h_t (show n 5 < 2 ^ 31 by omega)
    refine lv_iload_n hx hb dX5_memory_8 rfl (lv_at hl 2 rfl) ?_
    refine lv_iconst (v := nI (0)) hx hb dX5_memory_9 (by decide) ?_
    refine lv_sipush (v := nI (999)) hx hb dX5_memory_10 (by decide) ?_
    refine ro_i (roS_run (As := [.int (a2), .int (nI 0), .int (nI 999)]) (rest := []) hx hb hml hown hts Tg_M (c_X5_in l D G _ (a2) (nI (0)) (nI (999))) lk_RX5_52 ⟨rfl, rfl, Nat.le_of_ble_eq_true rfl, Nat.le_of_ble_eq_true rfl⟩ hP hK [] rfl rfl hl rfl (Nat.le_of_ble_eq_true rfl) dX5_memory_13 ⟨Nat.le_of_ble_eq_true rfl, Nat.le_of_ble_eq_true rfl⟩) hS hA (fun locs hS => ?_)
    refine b_if_eq (tgt := 39) hx hb dX5_memory_16 (by decide) (fun c_16 => ?_) (fun c_16 => ?_)
    · have e_cu := ir_no c_16
      refine lv_iconst (v := (-1)) hx hb dX5_memory_39 (by decide) ?_
      exact ro_iret hx hb hr hlocks hS dX5_memory_40 (by simp only [spMem, e_t, e_cu, Option.elim])
    · obtain ⟨cu, g_cu, h_cu, rfl⟩ := inR_N (by decide) (by decide) c_16
      have e_cu := ir_yes g_cu h_cu (by decide)
      refine lv_iload_n hx hb dX5_memory_19 rfl (lv_at hl 3 rfl) ?_
      refine lv_iconst (v := nI (0)) hx hb dX5_memory_20 (by decide) ?_
      refine lv_bipush (v := nI (20)) hx hb dX5_memory_21 (by decide) ?_
      refine ro_i (roS_run (As := [.int (a3), .int (nI 0), .int (nI 20)]) (rest := []) hx hb hml hown hts Tg_M (c_X5_in l D G _ (a3) (nI (0)) (nI (20))) lk_RX5_52 ⟨rfl, rfl, Nat.le_of_ble_eq_true rfl, Nat.le_of_ble_eq_true rfl⟩ hP hK [] rfl rfl hl rfl (Nat.le_of_ble_eq_true rfl) dX5_memory_23 ⟨Nat.le_of_ble_eq_true rfl, Nat.le_of_ble_eq_true rfl⟩) hS hA (fun locs hS => ?_)
      refine b_if_eq (tgt := 39) hx hb dX5_memory_26 (by decide) (fun c_26 => ?_) (fun c_26 => ?_)
      · have e_y := ir_no c_26
        refine lv_iconst (v := (-1)) hx hb dX5_memory_39 (by decide) ?_
        exact ro_iret hx hb hr hlocks hS dX5_memory_40 (by simp only [spMem, e_t, e_cu, e_y, Option.elim])
      · obtain ⟨y, g_y, h_y, rfl⟩ := inR_N (by decide) (by decide) c_26
        have e_y := ir_yes g_y h_y (by decide)
        refine lv_iload hx hb dX5_memory_29 (lv_at hl 4 rfl) ?_
        refine lv_iconst (v := nI (0)) hx hb dX5_memory_31 (by decide) ?_
        refine lv_iconst (v := nI (1)) hx hb dX5_memory_32 (by decide) ?_
        refine ro_i (roS_run (As := [.int (a4), .int (nI 0), .int (nI 1)]) (rest := []) hx hb hml hown hts Tg_M (c_X5_in l D G _ (a4) (nI (0)) (nI (1))) lk_RX5_52 ⟨rfl, rfl, Nat.le_of_ble_eq_true rfl, Nat.le_of_ble_eq_true rfl⟩ hP hK [] rfl rfl hl rfl (Nat.le_of_ble_eq_true rfl) dX5_memory_33 ⟨Nat.le_of_ble_eq_true rfl, Nat.le_of_ble_eq_true rfl⟩) hS hA (fun locs hS => ?_)
        refine b_if_ne (tgt := 41) hx hb dX5_memory_36 (by decide) (fun c_36 => ?_) (fun c_36 => ?_)
        · obtain ⟨wh, g_wh, h_wh, rfl⟩ := inR_N (by decide) (by decide) c_36
          have e_wh := ir_yes g_wh h_wh (by decide)
          refine lv_bipush (v := (-9)) hx hb dX5_memory_41 (by decide) ?_
          refine lv_istore (lv' := [(5, .int (-9)), (0, .ref (am 0)), (1, .int (nI t)), (2, .int (nI cu)), (3, .int (nI y)), (4, .int (nI wh))]) hx hb dX5_memory_43 hl (by decide) rfl (fun ls hl => ?_)
          refine lv_bipush (v := (-9)) hx hb dX5_memory_45 (by decide) ?_
          refine lv_istore (lv' := [(6, .int (-9)), (5, .int (-9)), (0, .ref (am 0)), (1, .int (nI t)), (2, .int (nI cu)), (3, .int (nI y)), (4, .int (nI wh))]) hx hb dX5_memory_47 hl (by decide) rfl (fun ls hl => ?_)
          refine lv_iconst (v := nI (0)) hx hb dX5_memory_49 (by decide) ?_
          refine lv_istore (lv' := [(7, .int (nI 0)), (6, .int (-9)), (5, .int (-9)), (0, .ref (am 0)), (1, .int (nI t)), (2, .int (nI cu)), (3, .int (nI y)), (4, .int (nI wh))]) hx hb dX5_memory_50 hl (by decide) rfl (fun ls hl => ?_)
          have loop_1 : ∀ (fuel : Nat) (w : Nat) (o : Option (Nat × Nat)), (w ≤ 61) → (optB o 60 60) → (meS (fun w => drk (f 5 t) w 0 (k 5)) cu y 61 0 none = meS (fun w => drk (f 5 t) w 0 (k 5)) cu y (61 - w) w o) → (61 - w) < fuel → ∀ (locs : List Loc), va_S (rF s.heap) s.heap s.heap locs → ∀ (ls : Array Slot), lv_has ls 9 [(0, .ref (am 0)), (1, .int (nI t)), (2, .int (nI cu)), (3, .int (nI y)), (4, .int (nI wh)), (5, .int (optI o 0)), (6, .int (optI o 1)), (7, .int (nI w))] → W p l e (rmD 4) s m args below meth c s.heap locs 0 0 (MQ below (rQi (spMem n f k (nI (t)) (nI (cu)) (nI (y)) (nI (wh))) s.heap) args s 0 0 (rF s.heap)) (F0 m 52 ls []) := by
            intro fuel
            induction fuel with
            | zero => intro w o hi1 ho hu hfu; exact absurd hfu (Nat.not_lt_zero _)
            | succ fuel ih_2 =>
              intro w o hi1 ho hu hfu locs hS ls hl
              rcases o with _ | ⟨bt, bf⟩
              · have hl : lv_has ls 9 [(0, .ref (am 0)), (1, .int (nI t)), (2, .int (nI cu)), (3, .int (nI y)), (4, .int (nI wh)), (5, .int (-9)), (6, .int (-9)), (7, .int (nI w))] := hl
                refine lv_iload hx hb dX5_memory_52 (lv_at hl 7 rfl) ?_
                refine lv_bipush (v := nI (60)) hx hb dX5_memory_54 (by decide) ?_
                refine n_icmp_gt (tgt := 118) hx hb dX5_memory_56 (by decide) (by omega) (by omega) (fun c_56 => ?_) (fun c_56 => ?_)
                · refine lv_iload hx hb dX5_memory_118 (lv_at hl 4 rfl) ?_
                  refine n_if_ne (tgt := 128) hx hb dX5_memory_120 (by decide) (by omega) (fun c_120 => ?_) (fun c_120 => ?_)
                  · refine lv_iload hx hb dX5_memory_128 (lv_at hl 6 rfl) ?_
                    exact ro_iret hx hb hr hlocks hS dX5_memory_130 (by simp only [spMem, e_t, e_cu, e_y, e_wh, Option.elim]; rw [hu, show 61 - w = 0 by omega, meS, show wh = 1 by omega]; rfl)
                  · refine lv_iload hx hb dX5_memory_123 (lv_at hl 5 rfl) ?_
                    refine lv_goto (tgt := 130) hx hb dX5_memory_125 (by decide) ?_
                    exact ro_iret hx hb hr hlocks hS dX5_memory_130 (by simp only [spMem, e_t, e_cu, e_y, e_wh, Option.elim]; rw [hu, show 61 - w = 0 by omega, meS, c_120]; rfl)
                · refine lv_aload_n hx hb dX5_memory_59 rfl (lv_at hl 0 rfl) ?_
                  refine lv_iload_n hx hb dX5_memory_60 rfl (lv_at hl 1 rfl) ?_
                  refine lv_iload hx hb dX5_memory_61 (lv_at hl 7 rfl) ?_
                  refine lv_iconst (v := nI (0)) hx hb dX5_memory_63 (by decide) ?_
                  refine lv_aload_n hx hb dX5_memory_64 rfl (lv_at hl 0 rfl) ?_
                  refine va_get (D := D) (ci := 4) (v := .ref (am 10)) (C := RX5) (T := TX5) (N := 21) hx hb hts (iX5) hown hK hP 0 rfl rfl 17 (by decide) (hts _ (List.mem_cons_of_mem _ wt_617)) (fun _ h9 => h9) rfl dX5_memory_65 ?_
                  refine lv_bipush (v := nI (6)) hx hb dX5_memory_68 (by decide) ?_
                  refine n_iald hx hb hK hP 6 (f := g 10) rfl (by omega) dX5_memory_70 ?_
                  refine n_tope (show nI (g 10 6) = nI (k 5) from congrArg nI (m6)) ?_
                  refine ro_i (roV_run (As := [.int (nI t), .int (nI w), .int (nI 0), .int (nI (k 5))]) (rest := []) hx hb hml hown hts Tg_M (c_X5_cupsOf l D G _ am n f k g j tx fl hh kp tr t w 0 (k 5) (by omega) il m5 (by omega) (by omega) (by omega) (by omega)) lk_RX5_112 ⟨rfl, rfl, Nat.le_of_ble_eq_true rfl, Nat.le_of_ble_eq_true rfl⟩ hP hK [0, 2, 3, 4, 5] rfl 0 4 rfl rfl rfl rfl hl rfl (Nat.le_of_ble_eq_true rfl) dX5_memory_71 ⟨Nat.le_of_ble_eq_true rfl, Nat.le_of_ble_eq_true rfl⟩) hS hA (fun locs hS => ?_)
                  refine lv_istore (lv' := [(8, .int (nI (drk (f 5 t) w 0 (k 5)))), (0, .ref (am 0)), (1, .int (nI t)), (2, .int (nI cu)), (3, .int (nI y)), (4, .int (nI wh)), (5, .int (-9)), (6, .int (-9)), (7, .int (nI w))]) hx hb dX5_memory_74 hl (by decide) rfl (fun ls hl => ?_)
                  have eD := drk_lt (w := w) (il t h_t) (by omega) (show 0 ≤ 4096 by omega) ih9
                  refine lv_iload hx hb dX5_memory_76 (lv_at hl 0 rfl) ?_
                  refine lv_iload_n hx hb dX5_memory_78 rfl (lv_at hl 3 rfl) ?_
                  refine lv_iload_n hx hb dX5_memory_79 rfl (lv_at hl 4 rfl) ?_
                  refine lv_isub hx hb dX5_memory_80 ?_
                  refine lv_icmp_lt (tgt := 112) hx hb dX5_memory_81 (by decide) (fun c_81 => ?_) (fun c_81 => ?_)
                  · have c_81 := (lt_sub9 (by omega) (by omega) (by omega)).mp c_81
                    refine lv_iinc (v := nI (w + 1)) (lv' := [(7, .int (nI (w + 1))), (8, .int (nI (drk (f 5 t) w 0 (k 5)))), (0, .ref (am 0)), (1, .int (nI t)), (2, .int (nI cu)), (3, .int (nI y)), (4, .int (nI wh)), (5, .int (-9)), (6, .int (-9))]) hx hb dX5_memory_112 hl (k := 8) rfl (nI_inc _ _) (by decide) rfl (fun ls hl => ?_)
                    refine lv_goto (tgt := 52) hx hb dX5_memory_115 (by decide) ?_
                    exact ih_2 (w + 1) (none) (by omega) (ho) (by rw [hu, show 61 - w = (61 - (w + 1)) + 1 by omega, meS, if_neg (by omega)]) (by omega) locs hS _ (lv_sub hl [2, 3, 4, 5, 6, 7, 8, 0] rfl)
                  · have c_81 : ¬ drk (f 5 t) w 0 (k 5) + y < cu := fun z => c_81 ((lt_sub9 (by omega) (by omega) (by omega)).mpr z)
                    refine lv_iload hx hb dX5_memory_84 (lv_at hl 0 rfl) ?_
                    refine lv_iload_n hx hb dX5_memory_86 rfl (lv_at hl 3 rfl) ?_
                    refine lv_iload_n hx hb dX5_memory_87 rfl (lv_at hl 4 rfl) ?_
                    refine n_iadd hx hb dX5_memory_88 ?_
                    refine n_icmp_gt (tgt := 112) hx hb dX5_memory_89 (by decide) (by omega) (by omega) (fun c_89 => ?_) (fun c_89 => ?_)
                    · refine lv_iinc (v := nI (w + 1)) (lv' := [(7, .int (nI (w + 1))), (8, .int (nI (drk (f 5 t) w 0 (k 5)))), (0, .ref (am 0)), (1, .int (nI t)), (2, .int (nI cu)), (3, .int (nI y)), (4, .int (nI wh)), (5, .int (-9)), (6, .int (-9))]) hx hb dX5_memory_112 hl (k := 8) rfl (nI_inc _ _) (by decide) rfl (fun ls hl => ?_)
                      refine lv_goto (tgt := 52) hx hb dX5_memory_115 (by decide) ?_
                      exact ih_2 (w + 1) (none) (by omega) (ho) (by rw [hu, show 61 - w = (61 - (w + 1)) + 1 by omega, meS, if_neg (by omega)]) (by omega) locs hS _ (lv_sub hl [2, 3, 4, 5, 6, 7, 8, 0] rfl)
                    · refine lv_iload hx hb dX5_memory_92 (lv_at hl 6 rfl) ?_
                      refine lv_bipush (v := (-9)) hx hb dX5_memory_94 (by decide) ?_
                      refine lv_icmp_ne (tgt := 104) hx hb dX5_memory_96 (by decide) (fun c_96 => ?_) (fun c_96 => ?_)
                      · exact absurd rfl c_96
                      · refine lv_iload hx hb dX5_memory_99 (lv_at hl 8 rfl) ?_
                        refine lv_goto (tgt := 106) hx hb dX5_memory_101 (by decide) ?_
                        refine lv_istore (lv' := [(5, .int (nI w)), (8, .int (nI (drk (f 5 t) w 0 (k 5)))), (0, .ref (am 0)), (1, .int (nI t)), (2, .int (nI cu)), (3, .int (nI y)), (4, .int (nI wh)), (6, .int (-9)), (7, .int (nI w))]) hx hb dX5_memory_106 hl (by decide) rfl (fun ls hl => ?_)
                        refine lv_iload hx hb dX5_memory_108 (lv_at hl 8 rfl) ?_
                        refine lv_istore (lv' := [(6, .int (nI w)), (5, .int (nI w)), (8, .int (nI (drk (f 5 t) w 0 (k 5)))), (0, .ref (am 0)), (1, .int (nI t)), (2, .int (nI cu)), (3, .int (nI y)), (4, .int (nI wh)), (7, .int (nI w))]) hx hb dX5_memory_110 hl (by decide) rfl (fun ls hl => ?_)
                        refine lv_iinc (v := nI (w + 1)) (lv' := [(7, .int (nI (w + 1))), (6, .int (nI w)), (5, .int (nI w)), (8, .int (nI (drk (f 5 t) w 0 (k 5)))), (0, .ref (am 0)), (1, .int (nI t)), (2, .int (nI cu)), (3, .int (nI y)), (4, .int (nI wh))]) hx hb dX5_memory_112 hl (k := 8) rfl (nI_inc _ _) (by decide) rfl (fun ls hl => ?_)
                        refine lv_goto (tgt := 52) hx hb dX5_memory_115 (by decide) ?_
                        exact ih_2 (w + 1) (some (w, w)) (by omega) (⟨by omega, by omega⟩) (by rw [hu, show 61 - w = (61 - (w + 1)) + 1 by omega, meS, if_pos (by omega)]) (by omega) locs hS _ (lv_sub hl [4, 5, 6, 7, 8, 2, 1, 0] rfl)
              · have hl : lv_has ls 9 [(0, .ref (am 0)), (1, .int (nI t)), (2, .int (nI cu)), (3, .int (nI y)), (4, .int (nI wh)), (5, .int (nI bt)), (6, .int (nI bf)), (7, .int (nI w))] := hl
                have ho1 : bt ≤ 60 := ho.1
                have ho2 : bf ≤ 60 := ho.2
                refine lv_iload hx hb dX5_memory_52 (lv_at hl 7 rfl) ?_
                refine lv_bipush (v := nI (60)) hx hb dX5_memory_54 (by decide) ?_
                refine n_icmp_gt (tgt := 118) hx hb dX5_memory_56 (by decide) (by omega) (by omega) (fun c_56 => ?_) (fun c_56 => ?_)
                · refine lv_iload hx hb dX5_memory_118 (lv_at hl 4 rfl) ?_
                  refine n_if_ne (tgt := 128) hx hb dX5_memory_120 (by decide) (by omega) (fun c_120 => ?_) (fun c_120 => ?_)
                  · refine lv_iload hx hb dX5_memory_128 (lv_at hl 6 rfl) ?_
                    exact ro_iret hx hb hr hlocks hS dX5_memory_130 (by simp only [spMem, e_t, e_cu, e_y, e_wh, Option.elim]; rw [hu, show 61 - w = 0 by omega, meS, show wh = 1 by omega]; rfl)
                  · refine lv_iload hx hb dX5_memory_123 (lv_at hl 5 rfl) ?_
                    refine lv_goto (tgt := 130) hx hb dX5_memory_125 (by decide) ?_
                    exact ro_iret hx hb hr hlocks hS dX5_memory_130 (by simp only [spMem, e_t, e_cu, e_y, e_wh, Option.elim]; rw [hu, show 61 - w = 0 by omega, meS, c_120]; rfl)
                · refine lv_aload_n hx hb dX5_memory_59 rfl (lv_at hl 0 rfl) ?_
                  refine lv_iload_n hx hb dX5_memory_60 rfl (lv_at hl 1 rfl) ?_
                  refine lv_iload hx hb dX5_memory_61 (lv_at hl 7 rfl) ?_
                  refine lv_iconst (v := nI (0)) hx hb dX5_memory_63 (by decide) ?_
                  refine lv_aload_n hx hb dX5_memory_64 rfl (lv_at hl 0 rfl) ?_
                  refine va_get (D := D) (ci := 4) (v := .ref (am 10)) (C := RX5) (T := TX5) (N := 21) hx hb hts (iX5) hown hK hP 0 rfl rfl 17 (by decide) (hts _ (List.mem_cons_of_mem _ wt_617)) (fun _ h9 => h9) rfl dX5_memory_65 ?_
                  refine lv_bipush (v := nI (6)) hx hb dX5_memory_68 (by decide) ?_
                  refine n_iald hx hb hK hP 6 (f := g 10) rfl (by omega) dX5_memory_70 ?_
                  refine n_tope (show nI (g 10 6) = nI (k 5) from congrArg nI (m6)) ?_
                  refine ro_i (roV_run (As := [.int (nI t), .int (nI w), .int (nI 0), .int (nI (k 5))]) (rest := []) hx hb hml hown hts Tg_M (c_X5_cupsOf l D G _ am n f k g j tx fl hh kp tr t w 0 (k 5) (by omega) il m5 (by omega) (by omega) (by omega) (by omega)) lk_RX5_112 ⟨rfl, rfl, Nat.le_of_ble_eq_true rfl, Nat.le_of_ble_eq_true rfl⟩ hP hK [0, 2, 3, 4, 5] rfl 0 4 rfl rfl rfl rfl hl rfl (Nat.le_of_ble_eq_true rfl) dX5_memory_71 ⟨Nat.le_of_ble_eq_true rfl, Nat.le_of_ble_eq_true rfl⟩) hS hA (fun locs hS => ?_)
                  refine lv_istore (lv' := [(8, .int (nI (drk (f 5 t) w 0 (k 5)))), (0, .ref (am 0)), (1, .int (nI t)), (2, .int (nI cu)), (3, .int (nI y)), (4, .int (nI wh)), (5, .int (nI bt)), (6, .int (nI bf)), (7, .int (nI w))]) hx hb dX5_memory_74 hl (by decide) rfl (fun ls hl => ?_)
                  have eD := drk_lt (w := w) (il t h_t) (by omega) (show 0 ≤ 4096 by omega) ih9
                  refine lv_iload hx hb dX5_memory_76 (lv_at hl 0 rfl) ?_
                  refine lv_iload_n hx hb dX5_memory_78 rfl (lv_at hl 3 rfl) ?_
                  refine lv_iload_n hx hb dX5_memory_79 rfl (lv_at hl 4 rfl) ?_
                  refine lv_isub hx hb dX5_memory_80 ?_
                  refine lv_icmp_lt (tgt := 112) hx hb dX5_memory_81 (by decide) (fun c_81 => ?_) (fun c_81 => ?_)
                  · have c_81 := (lt_sub9 (by omega) (by omega) (by omega)).mp c_81
                    refine lv_iinc (v := nI (w + 1)) (lv' := [(7, .int (nI (w + 1))), (8, .int (nI (drk (f 5 t) w 0 (k 5)))), (0, .ref (am 0)), (1, .int (nI t)), (2, .int (nI cu)), (3, .int (nI y)), (4, .int (nI wh)), (5, .int (nI bt)), (6, .int (nI bf))]) hx hb dX5_memory_112 hl (k := 8) rfl (nI_inc _ _) (by decide) rfl (fun ls hl => ?_)
                    refine lv_goto (tgt := 52) hx hb dX5_memory_115 (by decide) ?_
                    exact ih_2 (w + 1) (some (bt, bf)) (by omega) (ho) (by rw [hu, show 61 - w = (61 - (w + 1)) + 1 by omega, meS, if_neg (by omega)]) (by omega) locs hS _ (lv_sub hl [2, 3, 4, 5, 6, 7, 8, 0] rfl)
                  · have c_81 : ¬ drk (f 5 t) w 0 (k 5) + y < cu := fun z => c_81 ((lt_sub9 (by omega) (by omega) (by omega)).mpr z)
                    refine lv_iload hx hb dX5_memory_84 (lv_at hl 0 rfl) ?_
                    refine lv_iload_n hx hb dX5_memory_86 rfl (lv_at hl 3 rfl) ?_
                    refine lv_iload_n hx hb dX5_memory_87 rfl (lv_at hl 4 rfl) ?_
                    refine n_iadd hx hb dX5_memory_88 ?_
                    refine n_icmp_gt (tgt := 112) hx hb dX5_memory_89 (by decide) (by omega) (by omega) (fun c_89 => ?_) (fun c_89 => ?_)
                    · refine lv_iinc (v := nI (w + 1)) (lv' := [(7, .int (nI (w + 1))), (8, .int (nI (drk (f 5 t) w 0 (k 5)))), (0, .ref (am 0)), (1, .int (nI t)), (2, .int (nI cu)), (3, .int (nI y)), (4, .int (nI wh)), (5, .int (nI bt)), (6, .int (nI bf))]) hx hb dX5_memory_112 hl (k := 8) rfl (nI_inc _ _) (by decide) rfl (fun ls hl => ?_)
                      refine lv_goto (tgt := 52) hx hb dX5_memory_115 (by decide) ?_
                      exact ih_2 (w + 1) (some (bt, bf)) (by omega) (ho) (by rw [hu, show 61 - w = (61 - (w + 1)) + 1 by omega, meS, if_neg (by omega)]) (by omega) locs hS _ (lv_sub hl [2, 3, 4, 5, 6, 7, 8, 0] rfl)
                    · refine lv_iload hx hb dX5_memory_92 (lv_at hl 6 rfl) ?_
                      refine lv_bipush (v := (-9)) hx hb dX5_memory_94 (by decide) ?_
                      refine lv_icmp_ne (tgt := 104) hx hb dX5_memory_96 (by decide) (fun c_96 => ?_) (fun c_96 => ?_)
                      · refine lv_iload hx hb dX5_memory_104 (lv_at hl 6 rfl) ?_
                        refine lv_istore (lv' := [(5, .int (nI bt)), (8, .int (nI (drk (f 5 t) w 0 (k 5)))), (0, .ref (am 0)), (1, .int (nI t)), (2, .int (nI cu)), (3, .int (nI y)), (4, .int (nI wh)), (6, .int (nI bf)), (7, .int (nI w))]) hx hb dX5_memory_106 hl (by decide) rfl (fun ls hl => ?_)
                        refine lv_iload hx hb dX5_memory_108 (lv_at hl 8 rfl) ?_
                        refine lv_istore (lv' := [(6, .int (nI w)), (5, .int (nI bt)), (8, .int (nI (drk (f 5 t) w 0 (k 5)))), (0, .ref (am 0)), (1, .int (nI t)), (2, .int (nI cu)), (3, .int (nI y)), (4, .int (nI wh)), (7, .int (nI w))]) hx hb dX5_memory_110 hl (by decide) rfl (fun ls hl => ?_)
                        refine lv_iinc (v := nI (w + 1)) (lv' := [(7, .int (nI (w + 1))), (6, .int (nI w)), (5, .int (nI bt)), (8, .int (nI (drk (f 5 t) w 0 (k 5)))), (0, .ref (am 0)), (1, .int (nI t)), (2, .int (nI cu)), (3, .int (nI y)), (4, .int (nI wh))]) hx hb dX5_memory_112 hl (k := 8) rfl (nI_inc _ _) (by decide) rfl (fun ls hl => ?_)
                        refine lv_goto (tgt := 52) hx hb dX5_memory_115 (by decide) ?_
                        exact ih_2 (w + 1) (some (bt, w)) (by omega) (⟨by omega, by omega⟩) (by rw [hu, show 61 - w = (61 - (w + 1)) + 1 by omega, meS, if_pos (by omega)]) (by omega) locs hS _ (lv_sub hl [4, 5, 6, 7, 8, 2, 1, 0] rfl)
                      · exact absurd c_96 (nI_ne9 (by omega))
          exact loop_1 (61 - 0 + 1) (0) (none) (by omega) (trivial) (rfl) (Nat.lt_succ_self _) locs hS _ (lv_sub hl [3, 4, 5, 6, 7, 2, 1, 0] rfl)
        · have e_wh := ir_no c_36
          refine lv_iconst (v := (-1)) hx hb dX5_memory_39 (by decide) ?_
          exact ro_iret hx hb hr hlocks hS dX5_memory_40 (by simp only [spMem, e_t, e_cu, e_y, e_wh, Option.elim])

set_option maxHeartbeats 4000000 in
set_option maxRecDepth 100000 in
theorem c_X5_count (l : Launch) (D : va_G) (G : ClassId × ClassId × ClassId) (H0 : Heap) (am n : Nat → Nat) (f : Nat → Nat → Nat) (k : Nat → Nat) (g : Nat → Nat → Nat) (j : Nat → Nat) (tx : Nat → Int32) (fl : Int32) (hh : Bool) (kp : Nat → Bool) (tr : Int64) (q : Nat) (a : Int32) (hI : XI n f k q) (hM : RQ n f k g) (hj0 : j 0 = n 0) (hj5 : j 5 = n 6) : Met l yX5_count (wM yX5_count cX5_count 2 (some .int)) (rmD 2) (rP D G [.ref (am 0), .int (a)] [(am 0, .inr (4, [.long (tr), .ref (am 1), .int (nI (j 0)), .ref (am 2), .ref (am 3), .ref (am 4), .ref (am 5), .ref (am 6), .ref (am 7), .ref (am 8), .ref (am 9), .int (nI (j 1)), .int (nI (j 2)), .int (nI (j 3)), .int (nI (j 4)), .int (fl), .int (bI (hh)), .ref (am 10), .ref (am 11), .ref (am 12), .int (nI (j 5))])), (am 2, .inl (G.1, 2, .inl (nF (g 2)))), (am 4, .inl (G.1, 2, .inl (nF (g 4)))), (am 10, .inl (G.1, 240, .inl (nF (g 10))))] H0) (rQi (spCount n k a) H0) 0 0 (rF H0) := by
  refine ro_start (Qc := fun H0 => (rQi (spCount n k a) H0)) (by decide) (Nat.le_of_ble_eq_true rfl) ?_
  intro p e s m args below meth c hx hb hr hts hown hlocks hml hP hK hA hH0 ls hl locs hS
  have hl : lv_has ls 2 [(0, .ref (am 0)), (1, .int (a))] := hl
  have hI0 := hI
  have hM0 := hM
  obtain ⟨i4, i5, i6, iq, iw, il, i7, i8, ih9, ik, iF⟩ := hI
  obtain ⟨m2, m3, m4, m5, m0, m6, m7, m8⟩ := hM
  refine lv_iload_n hx hb dX5_count_0 rfl (lv_at hl 1 rfl) ?_
  rcases hq : inR a (nI 0) (nI 5) with _ | _
  · have e_a := ir_no hq
    refine lv_tableOut (tgt := 80) hx hb dX5_count_1 (inR_out (by decide) (by decide) hq) (by decide) ?_
    refine lv_iconst (v := (-1)) hx hb dX5_count_80 (by decide) ?_
    exact ro_iret hx hb hr hlocks hS dX5_count_81 (by simp only [spCount, e_a, Option.elim])
  · obtain ⟨i, -, hi, rfl⟩ := inR_N (by decide) (by decide) hq
    rcases (show i = 0 ∨ i = 1 ∨ i = 2 ∨ i = 3 ∨ i = 4 ∨ i = 5 by omega) with rfl | rfl | rfl | rfl | rfl | rfl
    · refine lv_tableIn (off := 39) (tgt := 40) hx hb dX5_count_1 (by decide) (by decide) (by decide) (by decide) ?_
      refine lv_aload_n hx hb dX5_count_40 rfl (lv_at hl 0 rfl) ?_
      refine va_get (D := D) (ci := 4) (v := .ref (am 2)) (C := RX5) (T := TX5) (N := 21) hx hb hts (iX5) hown hK hP 0 rfl rfl 3 (by decide) (hts _ (List.mem_cons_of_mem _ wt_603)) (fun _ h9 => h9) rfl dX5_count_41 ?_
      refine lv_iconst (v := nI (0)) hx hb dX5_count_44 (by decide) ?_
      refine n_iald hx hb hK hP 1 (f := g 2) rfl (by omega) dX5_count_45 ?_
      refine n_tope (show nI (g 2 0) = nI (n 4) from congrArg nI (m2)) ?_
      exact ro_iret hx hb hr hlocks hS dX5_count_46 (rfl)
    · refine lv_tableIn (off := 46) (tgt := 47) hx hb dX5_count_1 (by decide) (by decide) (by decide) (by decide) ?_
      refine lv_aload_n hx hb dX5_count_47 rfl (lv_at hl 0 rfl) ?_
      refine va_get (D := D) (ci := 4) (v := .ref (am 4)) (C := RX5) (T := TX5) (N := 21) hx hb hts (iX5) hown hK hP 0 rfl rfl 5 (by decide) (hts _ (List.mem_cons_of_mem _ wt_605)) (fun _ h9 => h9) rfl dX5_count_48 ?_
      refine lv_iconst (v := nI (0)) hx hb dX5_count_51 (by decide) ?_
      refine n_iald hx hb hK hP 2 (f := g 4) rfl (by omega) dX5_count_52 ?_
      refine n_tope (show nI (g 4 0) = nI (n 5) from congrArg nI (m4)) ?_
      exact ro_iret hx hb hr hlocks hS dX5_count_53 (rfl)
    · refine lv_tableIn (off := 53) (tgt := 54) hx hb dX5_count_1 (by decide) (by decide) (by decide) (by decide) ?_
      refine lv_aload_n hx hb dX5_count_54 rfl (lv_at hl 0 rfl) ?_
      refine va_get (D := D) (ci := 4) (v := .ref (am 10)) (C := RX5) (T := TX5) (N := 21) hx hb hts (iX5) hown hK hP 0 rfl rfl 17 (by decide) (hts _ (List.mem_cons_of_mem _ wt_617)) (fun _ h9 => h9) rfl dX5_count_55 ?_
      refine lv_bipush (v := nI (6)) hx hb dX5_count_58 (by decide) ?_
      refine n_iald hx hb hK hP 3 (f := g 10) rfl (by omega) dX5_count_60 ?_
      refine n_tope (show nI (g 10 6) = nI (k 5) from congrArg nI (m6)) ?_
      exact ro_iret hx hb hr hlocks hS dX5_count_61 (rfl)
    · refine lv_tableIn (off := 61) (tgt := 62) hx hb dX5_count_1 (by decide) (by decide) (by decide) (by decide) ?_
      refine lv_aload_n hx hb dX5_count_62 rfl (lv_at hl 0 rfl) ?_
      refine va_get (D := D) (ci := 4) (v := .ref (am 10)) (C := RX5) (T := TX5) (N := 21) hx hb hts (iX5) hown hK hP 0 rfl rfl 17 (by decide) (hts _ (List.mem_cons_of_mem _ wt_617)) (fun _ h9 => h9) rfl dX5_count_63 ?_
      refine lv_bipush (v := nI (7)) hx hb dX5_count_66 (by decide) ?_
      refine n_iald hx hb hK hP 3 (f := g 10) rfl (by omega) dX5_count_68 ?_
      refine n_tope (show nI (g 10 7) = nI (n 8) from congrArg nI (m7)) ?_
      exact ro_iret hx hb hr hlocks hS dX5_count_69 (rfl)
    · refine lv_tableIn (off := 69) (tgt := 70) hx hb dX5_count_1 (by decide) (by decide) (by decide) (by decide) ?_
      refine lv_aload_n hx hb dX5_count_70 rfl (lv_at hl 0 rfl) ?_
      refine va_get (D := D) (ci := 4) (v := .int (nI (j 5))) (C := RX5) (T := TX5) (N := 21) hx hb hts (iX5) hown hK hP 0 rfl rfl 20 (by decide) (hts _ (List.mem_cons_of_mem _ wt_620)) (fun _ h9 => h9) rfl dX5_count_71 ?_
      exact ro_iret hx hb hr hlocks hS dX5_count_74 (congrArg nI hj5)
    · refine lv_tableIn (off := 74) (tgt := 75) hx hb dX5_count_1 (by decide) (by decide) (by decide) (by decide) ?_
      refine lv_aload_n hx hb dX5_count_75 rfl (lv_at hl 0 rfl) ?_
      refine va_get (D := D) (ci := 4) (v := .int (nI (j 0))) (C := RX5) (T := TX5) (N := 21) hx hb hts (iX5) hown hK hP 0 rfl rfl 2 (by decide) (hts _ (List.mem_cons_of_mem _ wt_602)) (fun _ h9 => h9) rfl dX5_count_76 ?_
      exact ro_iret hx hb hr hlocks hS dX5_count_79 (congrArg nI hj0)

set_option maxHeartbeats 4000000 in
set_option maxRecDepth 100000 in
theorem c_X5_trace (l : Launch) (D : va_G) (G : ClassId × ClassId × ClassId) (H0 : Heap) (am n : Nat → Nat) (f : Nat → Nat → Nat) (k : Nat → Nat) (g : Nat → Nat → Nat) (j : Nat → Nat) (tx : Nat → Int32) (fl : Int32) (hh : Bool) (kp : Nat → Bool) (tr : Int64)  : Met l yX5_trace (wM yX5_trace cX5_trace 1 (some .long)) (rmD 1) (rP D G [.ref (am 0)] [(am 0, .inr (4, [.long (tr), .ref (am 1), .int (nI (j 0)), .ref (am 2), .ref (am 3), .ref (am 4), .ref (am 5), .ref (am 6), .ref (am 7), .ref (am 8), .ref (am 9), .int (nI (j 1)), .int (nI (j 2)), .int (nI (j 3)), .int (nI (j 4)), .int (fl), .int (bI (hh)), .ref (am 10), .ref (am 11), .ref (am 12), .int (nI (j 5))]))] H0) (rQl (tr) H0) 0 0 (rF H0) := by
  refine ro_start (Qc := fun H0 => (rQl (tr) H0)) (by decide) (Nat.le_of_ble_eq_true rfl) ?_
  intro p e s m args below meth c hx hb hr hts hown hlocks hml hP hK hA hH0 ls hl locs hS
  have hl : lv_has ls 1 [(0, .ref (am 0))] := hl
  refine lv_aload_n hx hb dX5_trace_0 rfl (lv_at hl 0 rfl) ?_
  refine va_get (D := D) (ci := 4) (v := .long (tr)) (C := RX5) (T := TX5) (N := 21) hx hb hts (iX5) hown hK hP 0 rfl rfl 0 (by decide) (hts _ (List.mem_cons_of_mem _ wt_600)) (fun _ h9 => h9) rfl dX5_trace_1 ?_
  exact ro_lret hx hb hr hlocks hS dX5_trace_4 (rfl)
