set_option maxHeartbeats 4000000 in
set_option maxRecDepth 100000 in
theorem c_X5_part (l : Launch) (D : va_G) (G : ClassId × ClassId × ClassId) (H0 : Heap) (am n : Nat → Nat) (f : Nat → Nat → Nat) (k : Nat → Nat) (g : Nat → Nat → Nat) (j : Nat → Nat) (tx : Nat → Int32) (fl : Int32) (hh : Bool) (kp : Nat → Bool) (tr : Int64) (lk : Nat → Nat) (Bq : Nat) (lo hi t : Nat) (hR : RK n f k g lk Bq) (hB : Bq ≤ 4096) (ht : t < n 5) (hlo : lo ≤ hi) (hhi : hi ≤ 60) : Met l yX5_part (wM yX5_part cX5_part 8 (some .long)) (rmD 3) (rP D G [.ref (am 0), .long (seI lo hi), .int (nI t)] [(am 0, .inr (4, [.long (tr), .ref (am 1), .int (nI (j 0)), .ref (am 2), .ref (am 3), .ref (am 4), .ref (am 5), .ref (am 6), .ref (am 7), .ref (am 8), .ref (am 9), .int (nI (j 1)), .int (nI (j 2)), .int (nI (j 3)), .int (nI (j 4)), .int (fl), .int (bI (hh)), .ref (am 10), .ref (am 11), .ref (am 12), .int (nI (j 5))])), (am 5, .inl (G.1, 12, .inl (nF (g 5)))), (am 6, .inl (G.1, 12, .inl (nF (g 6)))), (am 7, .inl (G.1, 12, .inl (nF (g 7)))), (am 8, .inl (G.1, 12, .inl (nF (g 8)))), (am 10, .inl (G.1, 240, .inl (nF (g 10))))] H0) (rQl (seI lo (eoS (fun w => drk (f 5 t) w (lk t) (k 5)) (drk (f 5 t) lo (lk t) (k 5)) (hi - lo) lo)) H0) 0 0 (rF H0) := by
  refine ro_start (Qc := fun H0 => (rQl (seI lo (eoS (fun w => drk (f 5 t) w (lk t) (k 5)) (drk (f 5 t) lo (lk t) (k 5)) (hi - lo) lo)) H0)) (by decide) (Nat.le_of_ble_eq_true rfl) ?_
  intro p e s m args below meth c hx hb hr hts hown hlocks hml hP hK hA hH0 ls hl locs hS
  have hl : lv_has ls 8 [(0, .ref (am 0)), (1, .long (seI lo hi)), (3, .int (nI t))] := hl
  have hR0 := hR
  obtain ⟨m4, m5, ml, m6, i5, il, ih9⟩ := hR
  have e1 := il t ht
  have e3 := ml t ht
  have e8 := eoS_in (fun w => drk (f 5 t) w (lk t) (k 5)) (drk (f 5 t) lo (lk t) (k 5)) (hi - lo) lo
  have e7 : eoS (fun w => drk (f 5 t) w (lk t) (k 5)) (drk (f 5 t) lo (lk t) (k 5)) (hi - lo) lo ≤ hi := by omega
  have d0 := drk_lt (w := lo) e1 (by omega) (show lk t ≤ 4096 by omega) ih9
  refine lv_aload_n hx hb dX5_part_0 rfl (lv_at hl 0 rfl) ?_
  refine lv_iload_n hx hb dX5_part_1 rfl (lv_at hl 2 rfl) ?_
  refine lv_lload_n hx hb dX5_part_2 rfl (lv_at hl 1 rfl) ?_
  refine ro_i (roS_run (As := [.long (seI lo hi)]) (rest := [.int (nI t), .ref (am 0)]) hx hb hml hown hts Tg_M (c_X5_least l D G _ lo hi (by omega) (by omega)) lk_RX5_128 ⟨rfl, rfl, Nat.le_of_ble_eq_true rfl, Nat.le_of_ble_eq_true rfl⟩ hP hK [] rfl rfl hl rfl (Nat.le_of_ble_eq_true rfl) dX5_part_3 ⟨Nat.le_of_ble_eq_true rfl, Nat.le_of_ble_eq_true rfl⟩) hS hA (fun locs hS => ?_)
  refine lv_aload_n hx hb dX5_part_6 rfl (lv_at hl 0 rfl) ?_
  refine va_get (D := D) (ci := 4) (v := .ref (am 10)) (C := RX5) (T := TX5) (N := 21) hx hb hts (iX5) hown hK hP 0 rfl rfl 17 (by decide) (hts _ (List.mem_cons_of_mem _ wt_617)) (fun _ h9 => h9) rfl dX5_part_7 ?_
  refine lv_iload_n hx hb dX5_part_10 rfl (lv_at hl 2 rfl) ?_
  refine n_iald hx hb hK hP 5 (f := g 10) rfl (by omega) dX5_part_11 ?_
  refine n_tope (show nI (g 10 t) = nI (lk t) from congrArg nI ((ml t (by omega)).1)) ?_
  refine lv_aload_n hx hb dX5_part_12 rfl (lv_at hl 0 rfl) ?_
  refine va_get (D := D) (ci := 4) (v := .ref (am 10)) (C := RX5) (T := TX5) (N := 21) hx hb hts (iX5) hown hK hP 0 rfl rfl 17 (by decide) (hts _ (List.mem_cons_of_mem _ wt_617)) (fun _ h9 => h9) rfl dX5_part_13 ?_
  refine lv_bipush (v := nI (6)) hx hb dX5_part_16 (by decide) ?_
  refine n_iald hx hb hK hP 5 (f := g 10) rfl (by omega) dX5_part_18 ?_
  refine n_tope (show nI (g 10 6) = nI (k 5) from congrArg nI (m6)) ?_
  refine ro_i (roV_run (As := [.int (nI t), .int (nI lo), .int (nI (lk t)), .int (nI (k 5))]) (rest := []) hx hb hml hown hts Tg_M (c_X5_cupsOf l D G _ am n f k g j tx fl hh kp tr t lo (lk t) (k 5) (by omega) il m5 i5 (by omega) (by omega) (by omega)) lk_RX5_112 ⟨rfl, rfl, Nat.le_of_ble_eq_true rfl, Nat.le_of_ble_eq_true rfl⟩ hP hK [0, 1, 2, 3, 4] rfl 0 4 rfl rfl rfl rfl hl rfl (Nat.le_of_ble_eq_true rfl) dX5_part_19 ⟨Nat.le_of_ble_eq_true rfl, Nat.le_of_ble_eq_true rfl⟩) hS hA (fun locs hS => ?_)
  refine lv_istore (lv' := [(4, .int (nI (drk (f 5 t) lo (lk t) (k 5)))), (0, .ref (am 0)), (1, .long (seI lo hi)), (3, .int (nI t))]) hx hb dX5_part_22 hl (by decide) rfl (fun ls hl => ?_)
  refine lv_lconst (v := 0) hx hb dX5_part_24 rfl ?_
  refine lv_lstore (lv' := [(5, .long (0)), (4, .int (nI (drk (f 5 t) lo (lk t) (k 5)))), (0, .ref (am 0)), (1, .long (seI lo hi)), (3, .int (nI t))]) hx hb dX5_part_25 hl (by decide) rfl (fun ls hl => ?_)
  refine lv_iconst (v := nI (0)) hx hb dX5_part_27 (by decide) ?_
  refine lv_istore (lv' := [(7, .int (nI 0)), (5, .long (0)), (4, .int (nI (drk (f 5 t) lo (lk t) (k 5)))), (0, .ref (am 0)), (1, .long (seI lo hi)), (3, .int (nI t))]) hx hb dX5_part_28 hl (by decide) rfl (fun ls hl => ?_)
  have loop_1 : ∀ (fuel : Nat) (w : Nat), (w ≤ 61) → (61 - w) < fuel → ∀ (locs : List Loc), va_S (rF s.heap) s.heap s.heap locs → ∀ (ls : Array Slot), lv_has ls 8 [(0, .ref (am 0)), (1, .long (seI lo hi)), (3, .int (nI t)), (4, .int (nI (drk (f 5 t) lo (lk t) (k 5)))), (5, .long (acS (iv lo (eoS (fun w => drk (f 5 t) w (lk t) (k 5)) (drk (f 5 t) lo (lk t) (k 5)) (hi - lo) lo)) w)), (7, .int (nI w))] → W p l e (rmD 3) s m args below meth c s.heap locs 0 0 (MQ below (rQl (seI lo (eoS (fun w => drk (f 5 t) w (lk t) (k 5)) (drk (f 5 t) lo (lk t) (k 5)) (hi - lo) lo)) s.heap) args s 0 0 (rF s.heap)) (F0 m 30 ls []) := by
    intro fuel
    induction fuel with
    | zero => intro w hw hfu; exact absurd hfu (Nat.not_lt_zero _)
    | succ fuel ih_2 =>
      intro w hw hfu locs hS ls hl
      refine lv_iload hx hb dX5_part_30 (lv_at hl 5 rfl) ?_
      refine lv_bipush (v := nI (60)) hx hb dX5_part_32 (by decide) ?_
      refine n_icmp_gt (tgt := 92) hx hb dX5_part_34 (by decide) (by omega) (by omega) (fun c_34 => ?_) (fun c_34 => ?_)
      · refine lv_lload hx hb dX5_part_92 (lv_at hl 4 rfl) ?_
        exact ro_lret hx hb hr hlocks hS dX5_part_94 (by obtain rfl : w = 61 := (by omega); rfl)
      · refine lv_lload hx hb dX5_part_37 (lv_at hl 4 rfl) ?_
        refine lv_lload_n hx hb dX5_part_39 rfl (lv_at hl 1 rfl) ?_
        refine lv_iload hx hb dX5_part_40 (lv_at hl 5 rfl) ?_
        refine lv_lshr hx hb dX5_part_42 rfl ?_
        refine lv_lconst (v := 1) hx hb dX5_part_43 rfl ?_
        refine lv_land hx hb dX5_part_44 ?_
        refine lv_lconst (v := 1) hx hb dX5_part_45 rfl ?_
        refine W.lcmp hx hb dX5_part_46 ?_
        refine lv_if_ne (tgt := 82) hx hb dX5_part_47 (by decide) (fun c_47 => ?_) (fun c_47 => ?_)
        · have eb : ¬ (lo ≤ w ∧ w ≤ hi) := fun z => c_47 ((cmp1 (by omega)).mpr ((seI_bit (by omega) hhi).trans (decide_eq_true z)))
          refine lv_lconst (v := 0) hx hb dX5_part_82 rfl ?_
          refine lv_lor hx hb dX5_part_83 ?_
          refine n_topl (show ((acS (iv lo (eoS (fun w => drk (f 5 t) w (lk t) (k 5)) (drk (f 5 t) lo (lk t) (k 5)) (hi - lo) lo)) w) ||| 0) = (acS (iv lo (eoS (fun w => drk (f 5 t) w (lk t) (k 5)) (drk (f 5 t) lo (lk t) (k 5)) (hi - lo) lo)) (w + 1)) from (by rw [acS, if_neg (fun z => eb ⟨(of_decide_eq_true z).1, Nat.le_trans (of_decide_eq_true z).2 e7⟩)])) ?_
          refine lv_lstore (lv' := [(5, .long (acS (iv lo (eoS (fun w => drk (f 5 t) w (lk t) (k 5)) (drk (f 5 t) lo (lk t) (k 5)) (hi - lo) lo)) (w + 1))), (0, .ref (am 0)), (1, .long (seI lo hi)), (3, .int (nI t)), (4, .int (nI (drk (f 5 t) lo (lk t) (k 5)))), (7, .int (nI w))]) hx hb dX5_part_84 hl (by decide) rfl (fun ls hl => ?_)
          refine lv_iinc (v := nI (w + 1)) (lv' := [(7, .int (nI (w + 1))), (5, .long (acS (iv lo (eoS (fun w => drk (f 5 t) w (lk t) (k 5)) (drk (f 5 t) lo (lk t) (k 5)) (hi - lo) lo)) (w + 1))), (0, .ref (am 0)), (1, .long (seI lo hi)), (3, .int (nI t)), (4, .int (nI (drk (f 5 t) lo (lk t) (k 5))))]) hx hb dX5_part_86 hl (k := 5) rfl (nI_inc _ _) (by decide) rfl (fun ls hl => ?_)
          refine lv_goto (tgt := 30) hx hb dX5_part_89 (by decide) ?_
          exact ih_2 (w + 1) (by omega) (by omega) locs hS _ (lv_sub hl [2, 3, 4, 5, 1, 0] rfl)
        · have eb : lo ≤ w ∧ w ≤ hi := of_decide_eq_true ((seI_bit (by omega) hhi).symm.trans ((cmp1 (by omega)).mp c_47))
          have e6 := eoS_spec (c := (fun w => drk (f 5 t) w (lk t) (k 5))) (fun _ _ z => drk_mono z) _ (hi - lo) lo rfl w eb.1 (by omega)
          have d1 := drk_lt (w := w) e1 (by omega) (show lk t ≤ 4096 by omega) ih9
          refine lv_aload_n hx hb dX5_part_50 rfl (lv_at hl 0 rfl) ?_
          refine lv_iload_n hx hb dX5_part_51 rfl (lv_at hl 2 rfl) ?_
          refine lv_iload hx hb dX5_part_52 (lv_at hl 5 rfl) ?_
          refine lv_aload_n hx hb dX5_part_54 rfl (lv_at hl 0 rfl) ?_
          refine va_get (D := D) (ci := 4) (v := .ref (am 10)) (C := RX5) (T := TX5) (N := 21) hx hb hts (iX5) hown hK hP 0 rfl rfl 17 (by decide) (hts _ (List.mem_cons_of_mem _ wt_617)) (fun _ h9 => h9) rfl dX5_part_55 ?_
          refine lv_iload_n hx hb dX5_part_58 rfl (lv_at hl 2 rfl) ?_
          refine n_iald hx hb hK hP 5 (f := g 10) rfl (by omega) dX5_part_59 ?_
          refine n_tope (show nI (g 10 t) = nI (lk t) from congrArg nI ((ml t (by omega)).1)) ?_
          refine lv_aload_n hx hb dX5_part_60 rfl (lv_at hl 0 rfl) ?_
          refine va_get (D := D) (ci := 4) (v := .ref (am 10)) (C := RX5) (T := TX5) (N := 21) hx hb hts (iX5) hown hK hP 0 rfl rfl 17 (by decide) (hts _ (List.mem_cons_of_mem _ wt_617)) (fun _ h9 => h9) rfl dX5_part_61 ?_
          refine lv_bipush (v := nI (6)) hx hb dX5_part_64 (by decide) ?_
          refine n_iald hx hb hK hP 5 (f := g 10) rfl (by omega) dX5_part_66 ?_
          refine n_tope (show nI (g 10 6) = nI (k 5) from congrArg nI (m6)) ?_
          refine ro_i (roV_run (As := [.int (nI t), .int (nI w), .int (nI (lk t)), .int (nI (k 5))]) (rest := [.long (acS (iv lo (eoS (fun w => drk (f 5 t) w (lk t) (k 5)) (drk (f 5 t) lo (lk t) (k 5)) (hi - lo) lo)) w)]) hx hb hml hown hts Tg_M (c_X5_cupsOf l D G _ am n f k g j tx fl hh kp tr t w (lk t) (k 5) (by omega) il m5 i5 (by omega) (by omega) (by omega)) lk_RX5_112 ⟨rfl, rfl, Nat.le_of_ble_eq_true rfl, Nat.le_of_ble_eq_true rfl⟩ hP hK [0, 1, 2, 3, 4] rfl 0 4 rfl rfl rfl rfl hl rfl (Nat.le_of_ble_eq_true rfl) dX5_part_67 ⟨Nat.le_of_ble_eq_true rfl, Nat.le_of_ble_eq_true rfl⟩) hS hA (fun locs hS => ?_)
          refine lv_iload hx hb dX5_part_70 (lv_at hl 3 rfl) ?_
          refine n_icmp_ne (tgt := 82) hx hb dX5_part_72 (by decide) (by omega) (by omega) (fun c_72 => ?_) (fun c_72 => ?_)
          · refine lv_lconst (v := 0) hx hb dX5_part_82 rfl ?_
            refine lv_lor hx hb dX5_part_83 ?_
            refine n_topl (show ((acS (iv lo (eoS (fun w => drk (f 5 t) w (lk t) (k 5)) (drk (f 5 t) lo (lk t) (k 5)) (hi - lo) lo)) w) ||| 0) = (acS (iv lo (eoS (fun w => drk (f 5 t) w (lk t) (k 5)) (drk (f 5 t) lo (lk t) (k 5)) (hi - lo) lo)) (w + 1)) from (by rw [acS, if_neg (fun z => c_72 (e6.mpr (of_decide_eq_true z).2))])) ?_
            refine lv_lstore (lv' := [(5, .long (acS (iv lo (eoS (fun w => drk (f 5 t) w (lk t) (k 5)) (drk (f 5 t) lo (lk t) (k 5)) (hi - lo) lo)) (w + 1))), (0, .ref (am 0)), (1, .long (seI lo hi)), (3, .int (nI t)), (4, .int (nI (drk (f 5 t) lo (lk t) (k 5)))), (7, .int (nI w))]) hx hb dX5_part_84 hl (by decide) rfl (fun ls hl => ?_)
            refine lv_iinc (v := nI (w + 1)) (lv' := [(7, .int (nI (w + 1))), (5, .long (acS (iv lo (eoS (fun w => drk (f 5 t) w (lk t) (k 5)) (drk (f 5 t) lo (lk t) (k 5)) (hi - lo) lo)) (w + 1))), (0, .ref (am 0)), (1, .long (seI lo hi)), (3, .int (nI t)), (4, .int (nI (drk (f 5 t) lo (lk t) (k 5))))]) hx hb dX5_part_86 hl (k := 5) rfl (nI_inc _ _) (by decide) rfl (fun ls hl => ?_)
            refine lv_goto (tgt := 30) hx hb dX5_part_89 (by decide) ?_
            exact ih_2 (w + 1) (by omega) (by omega) locs hS _ (lv_sub hl [2, 3, 4, 5, 1, 0] rfl)
          · refine lv_lconst (v := 1) hx hb dX5_part_75 rfl ?_
            refine lv_iload hx hb dX5_part_76 (lv_at hl 5 rfl) ?_
            refine lv_lshl hx hb dX5_part_78 rfl ?_
            refine lv_goto (tgt := 83) hx hb dX5_part_79 (by decide) ?_
            refine lv_lor hx hb dX5_part_83 ?_
            refine n_topl (show ((acS (iv lo (eoS (fun w => drk (f 5 t) w (lk t) (k 5)) (drk (f 5 t) lo (lk t) (k 5)) (hi - lo) lo)) w) ||| (1 <<< ((nI (w)).toInt64 &&& 63))) = (acS (iv lo (eoS (fun w => drk (f 5 t) w (lk t) (k 5)) (drk (f 5 t) lo (lk t) (k 5)) (hi - lo) lo)) (w + 1)) from (by rw [acS, if_pos (show iv lo _ w = true from decide_eq_true ⟨eb.1, e6.mp c_72⟩)]; rfl)) ?_
            refine lv_lstore (lv' := [(5, .long (acS (iv lo (eoS (fun w => drk (f 5 t) w (lk t) (k 5)) (drk (f 5 t) lo (lk t) (k 5)) (hi - lo) lo)) (w + 1))), (0, .ref (am 0)), (1, .long (seI lo hi)), (3, .int (nI t)), (4, .int (nI (drk (f 5 t) lo (lk t) (k 5)))), (7, .int (nI w))]) hx hb dX5_part_84 hl (by decide) rfl (fun ls hl => ?_)
            refine lv_iinc (v := nI (w + 1)) (lv' := [(7, .int (nI (w + 1))), (5, .long (acS (iv lo (eoS (fun w => drk (f 5 t) w (lk t) (k 5)) (drk (f 5 t) lo (lk t) (k 5)) (hi - lo) lo)) (w + 1))), (0, .ref (am 0)), (1, .long (seI lo hi)), (3, .int (nI t)), (4, .int (nI (drk (f 5 t) lo (lk t) (k 5))))]) hx hb dX5_part_86 hl (k := 5) rfl (nI_inc _ _) (by decide) rfl (fun ls hl => ?_)
            refine lv_goto (tgt := 30) hx hb dX5_part_89 (by decide) ?_
            exact ih_2 (w + 1) (by omega) (by omega) locs hS _ (lv_sub hl [2, 3, 4, 5, 1, 0] rfl)
  exact loop_1 (61 - 0 + 1) (0) (by omega) (Nat.lt_succ_self _) locs hS _ (lv_sub hl [3, 4, 5, 2, 1, 0] rfl)

set_option maxHeartbeats 4000000 in
set_option maxRecDepth 100000 in
theorem c_X5_worst (l : Launch) (D : va_G) (G : ClassId × ClassId × ClassId) (H0 : Heap) (am n : Nat → Nat) (f : Nat → Nat → Nat) (k : Nat → Nat) (g : Nat → Nat → Nat) (j : Nat → Nat) (tx : Nat → Int32) (fl : Int32) (hh : Bool) (kp : Nat → Bool) (tr : Int64) (lk : Nat → Nat) (Bq : Nat) (lo hi t : Nat) (hR : RK n f k g lk Bq) (hB : Bq ≤ 4096) (ht : t < n 5) (hlo : lo ≤ hi + 1) (hhi : hi ≤ 60) : Met l yX5_worst (wM yX5_worst cX5_worst 9 (some .int)) (rmD 4) (rP D G [.ref (am 0), .long (seI lo hi), .int (nI t)] [(am 0, .inr (4, [.long (tr), .ref (am 1), .int (nI (j 0)), .ref (am 2), .ref (am 3), .ref (am 4), .ref (am 5), .ref (am 6), .ref (am 7), .ref (am 8), .ref (am 9), .int (nI (j 1)), .int (nI (j 2)), .int (nI (j 3)), .int (nI (j 4)), .int (fl), .int (bI (hh)), .ref (am 10), .ref (am 11), .ref (am 12), .int (nI (j 5))])), (am 5, .inl (G.1, 12, .inl (nF (g 5)))), (am 6, .inl (G.1, 12, .inl (nF (g 6)))), (am 7, .inl (G.1, 12, .inl (nF (g 7)))), (am 8, .inl (G.1, 12, .inl (nF (g 8)))), (am 10, .inl (G.1, 240, .inl (nF (g 10))))] H0) (rQi (nI (lwS (fun w => drk (f 5 t) w (lk t) (k 5)) hi 61 lo 0)) H0) 0 0 (rF H0) := by
  refine ro_start (Qc := fun H0 => (rQi (nI (lwS (fun w => drk (f 5 t) w (lk t) (k 5)) hi 61 lo 0)) H0)) (by decide) (Nat.le_of_ble_eq_true rfl) ?_
  intro p e s m args below meth c hx hb hr hts hown hlocks hml hP hK hA hH0 ls hl locs hS
  have hl : lv_has ls 9 [(0, .ref (am 0)), (1, .long (seI lo hi)), (3, .int (nI t))] := hl
  have hR0 := hR
  obtain ⟨m4, m5, ml, m6, i5, il, ih9⟩ := hR
  refine lv_lload_n hx hb dX5_worst_0 rfl (lv_at hl 1 rfl) ?_
  refine lv_lstore (lv' := [(4, .long (seI lo hi)), (0, .ref (am 0)), (1, .long (seI lo hi)), (3, .int (nI t))]) hx hb dX5_worst_1 hl (by decide) rfl (fun ls hl => ?_)
  refine lv_iconst (v := nI (0)) hx hb dX5_worst_3 (by decide) ?_
  refine lv_istore (lv' := [(6, .int (nI 0)), (4, .long (seI lo hi)), (0, .ref (am 0)), (1, .long (seI lo hi)), (3, .int (nI t))]) hx hb dX5_worst_4 hl (by decide) rfl (fun ls hl => ?_)
  have loop_1 : ∀ (fuel : Nat) (fu : Nat) (fr : Nat) (mo : Nat), (hi + 1 ≤ fu + fr) → (fr ≤ hi + 1) → (mo ≤ 61) → (lwS (fun w => drk (f 5 t) w (lk t) (k 5)) hi 61 lo 0 = lwS (fun w => drk (f 5 t) w (lk t) (k 5)) hi fu fr mo) → (hi + 1 - fr) < fuel → ∀ (locs : List Loc), va_S (rF s.heap) s.heap s.heap locs → ∀ (ls : Array Slot), lv_has ls 9 [(0, .ref (am 0)), (3, .int (nI t)), (4, .long (seI fr hi)), (6, .int (nI mo))] → W p l e (rmD 4) s m args below meth c s.heap locs 0 0 (MQ below (rQi (nI (lwS (fun w => drk (f 5 t) w (lk t) (k 5)) hi 61 lo 0)) s.heap) args s 0 0 (rF s.heap)) (F0 m 6 ls []) := by
    intro fuel
    induction fuel with
    | zero => intro fu fr mo h1 h2 h3 hu hfu; exact absurd hfu (Nat.not_lt_zero _)
    | succ fuel ih_2 =>
      intro fu fr mo h1 h2 h3 hu hfu locs hS ls hl
      refine lv_lload hx hb dX5_worst_6 (lv_at hl 2 rfl) ?_
      refine lv_lconst (v := 0) hx hb dX5_worst_8 rfl ?_
      refine W.lcmp hx hb dX5_worst_9 ?_
      refine lv_if_eq (tgt := 58) hx hb dX5_worst_10 (by decide) (fun c_10 => ?_) (fun c_10 => ?_)
      · have hfr : hi < fr := (seI_0 hhi).mp (cmpz.mp c_10)
        refine lv_iload hx hb dX5_worst_58 (lv_at hl 3 rfl) ?_
        exact ro_iret hx hb hr hlocks hS dX5_worst_60 (congrArg nI (by rw [hu, lwS_end hfr]))
      · have hfr : fr ≤ hi := Nat.not_lt.mp (fun z => c_10 (cmpz.mpr ((seI_0 hhi).mpr z)))
        refine lv_aload_n hx hb dX5_worst_13 rfl (lv_at hl 0 rfl) ?_
        refine lv_lload hx hb dX5_worst_14 (lv_at hl 2 rfl) ?_
        refine lv_iload_n hx hb dX5_worst_16 rfl (lv_at hl 1 rfl) ?_
        refine ro_l (roV_run (As := [.long (seI fr hi), .int (nI t)]) (rest := []) hx hb hml hown hts Tg_M (c_X5_part l D G _ am n f k g j tx fl hh kp tr lk Bq fr hi t hR0 (by omega) (by omega) (by omega) (by omega)) lk_RX5_134 ⟨rfl, rfl, Nat.le_of_ble_eq_true rfl, Nat.le_of_ble_eq_true rfl⟩ hP hK [0, 1, 2, 3, 4, 5] rfl 0 4 rfl rfl rfl rfl hl rfl (Nat.le_of_ble_eq_true rfl) dX5_worst_17 ⟨Nat.le_of_ble_eq_true rfl, Nat.le_of_ble_eq_true rfl⟩) hS hA (fun locs hS => ?_)
        have e8 := eoS_in (fun w => drk (f 5 t) w (lk t) (k 5)) (drk (f 5 t) fr (lk t) (k 5)) (hi - fr) fr
        refine lv_lstore (lv' := [(7, .long (seI fr (eoS (fun w => drk (f 5 t) w (lk t) (k 5)) (drk (f 5 t) fr (lk t) (k 5)) (hi - fr) fr))), (0, .ref (am 0)), (3, .int (nI t)), (4, .long (seI fr hi)), (6, .int (nI mo))]) hx hb dX5_worst_20 hl (by decide) rfl (fun ls hl => ?_)
        refine lv_lload hx hb dX5_worst_22 (lv_at hl 0 rfl) ?_
        refine ro_i (roS_run (As := [.long (seI fr (eoS (fun w => drk (f 5 t) w (lk t) (k 5)) (drk (f 5 t) fr (lk t) (k 5)) (hi - fr) fr))]) (rest := []) hx hb hml hown hts Tg_M (c_X5_manyOf l D G _ fr (eoS (fun w => drk (f 5 t) w (lk t) (k 5)) (drk (f 5 t) fr (lk t) (k 5)) (hi - fr) fr) (by omega) (by omega)) lk_RX5_124 ⟨rfl, rfl, Nat.le_of_ble_eq_true rfl, Nat.le_of_ble_eq_true rfl⟩ hP hK [] rfl rfl hl rfl (Nat.le_of_ble_eq_true rfl) dX5_worst_24 ⟨Nat.le_of_ble_eq_true rfl, Nat.le_of_ble_eq_true rfl⟩) hS hA (fun locs hS => ?_)
        refine lv_iload hx hb dX5_worst_27 (lv_at hl 4 rfl) ?_
        refine n_icmp_le (tgt := 40) hx hb dX5_worst_29 (by decide) (by omega) (by omega) (fun c_29 => ?_) (fun c_29 => ?_)
        · refine lv_iload hx hb dX5_worst_40 (lv_at hl 4 rfl) ?_
          refine n_tope (show nI (mo) = nI (Nat.max mo (eoS (fun w => drk (f 5 t) w (lk t) (k 5)) (drk (f 5 t) fr (lk t) (k 5)) (hi - fr) fr - fr + 1)) from congrArg nI ((Nat.max_eq_left (by omega)).symm)) ?_
          refine lv_istore (lv' := [(6, .int (nI (Nat.max mo (eoS (fun w => drk (f 5 t) w (lk t) (k 5)) (drk (f 5 t) fr (lk t) (k 5)) (hi - fr) fr - fr + 1)))), (7, .long (seI fr (eoS (fun w => drk (f 5 t) w (lk t) (k 5)) (drk (f 5 t) fr (lk t) (k 5)) (hi - fr) fr))), (0, .ref (am 0)), (3, .int (nI t)), (4, .long (seI fr hi))]) hx hb dX5_worst_42 hl (by decide) rfl (fun ls hl => ?_)
          refine lv_lload hx hb dX5_worst_44 (lv_at hl 4 rfl) ?_
          refine lv_lload hx hb dX5_worst_46 (lv_at hl 1 rfl) ?_
          refine lv_ldc2 (v := -1) hx hb hown (hts _ (List.mem_cons_of_mem _ wt_792)) dX5_worst_48 ?_
          refine lv_lxor hx hb dX5_worst_51 ?_
          refine lv_land hx hb dX5_worst_52 ?_
          refine n_topl (show ((seI fr hi) &&& ((seI fr (eoS (fun w => drk (f 5 t) w (lk t) (k 5)) (drk (f 5 t) fr (lk t) (k 5)) (hi - fr) fr)) ^^^ (-1))) = (seI (eoS (fun w => drk (f 5 t) w (lk t) (k 5)) (drk (f 5 t) fr (lk t) (k 5)) (hi - fr) fr + 1) hi) from seI_rest (by omega) (by omega) hhi) ?_
          refine lv_lstore (lv' := [(4, .long (seI (eoS (fun w => drk (f 5 t) w (lk t) (k 5)) (drk (f 5 t) fr (lk t) (k 5)) (hi - fr) fr + 1) hi)), (6, .int (nI (Nat.max mo (eoS (fun w => drk (f 5 t) w (lk t) (k 5)) (drk (f 5 t) fr (lk t) (k 5)) (hi - fr) fr - fr + 1)))), (7, .long (seI fr (eoS (fun w => drk (f 5 t) w (lk t) (k 5)) (drk (f 5 t) fr (lk t) (k 5)) (hi - fr) fr))), (0, .ref (am 0)), (3, .int (nI t))]) hx hb dX5_worst_53 hl (by decide) rfl (fun ls hl => ?_)
          refine lv_goto (tgt := 6) hx hb dX5_worst_55 (by decide) ?_
          exact ih_2 (fu - 1) (eoS (fun w => drk (f 5 t) w (lk t) (k 5)) (drk (f 5 t) fr (lk t) (k 5)) (hi - fr) fr + 1) (Nat.max mo (eoS (fun w => drk (f 5 t) w (lk t) (k 5)) (drk (f 5 t) fr (lk t) (k 5)) (hi - fr) fr - fr + 1)) (by omega) (by omega) (Nat.max_le.mpr ⟨by omega, by omega⟩) (by rw [hu, show fu = (fu - 1) + 1 by omega, lwS, if_pos hfr]; rfl) (by omega) locs hS _ (lv_sub hl [3, 4, 0, 1] rfl)
        · refine lv_lload hx hb dX5_worst_32 (lv_at hl 0 rfl) ?_
          refine ro_i (roS_run (As := [.long (seI fr (eoS (fun w => drk (f 5 t) w (lk t) (k 5)) (drk (f 5 t) fr (lk t) (k 5)) (hi - fr) fr))]) (rest := []) hx hb hml hown hts Tg_M (c_X5_manyOf l D G _ fr (eoS (fun w => drk (f 5 t) w (lk t) (k 5)) (drk (f 5 t) fr (lk t) (k 5)) (hi - fr) fr) (by omega) (by omega)) lk_RX5_124 ⟨rfl, rfl, Nat.le_of_ble_eq_true rfl, Nat.le_of_ble_eq_true rfl⟩ hP hK [] rfl rfl hl rfl (Nat.le_of_ble_eq_true rfl) dX5_worst_34 ⟨Nat.le_of_ble_eq_true rfl, Nat.le_of_ble_eq_true rfl⟩) hS hA (fun locs hS => ?_)
          refine lv_goto (tgt := 42) hx hb dX5_worst_37 (by decide) ?_
          refine n_tope (show nI ((eoS (fun w => drk (f 5 t) w (lk t) (k 5)) (drk (f 5 t) fr (lk t) (k 5)) (hi - fr) fr) - fr + 1) = nI (Nat.max mo (eoS (fun w => drk (f 5 t) w (lk t) (k 5)) (drk (f 5 t) fr (lk t) (k 5)) (hi - fr) fr - fr + 1)) from congrArg nI ((Nat.max_eq_right (by omega)).symm)) ?_
          refine lv_istore (lv' := [(6, .int (nI (Nat.max mo (eoS (fun w => drk (f 5 t) w (lk t) (k 5)) (drk (f 5 t) fr (lk t) (k 5)) (hi - fr) fr - fr + 1)))), (7, .long (seI fr (eoS (fun w => drk (f 5 t) w (lk t) (k 5)) (drk (f 5 t) fr (lk t) (k 5)) (hi - fr) fr))), (0, .ref (am 0)), (3, .int (nI t)), (4, .long (seI fr hi))]) hx hb dX5_worst_42 hl (by decide) rfl (fun ls hl => ?_)
          refine lv_lload hx hb dX5_worst_44 (lv_at hl 4 rfl) ?_
          refine lv_lload hx hb dX5_worst_46 (lv_at hl 1 rfl) ?_
          refine lv_ldc2 (v := -1) hx hb hown (hts _ (List.mem_cons_of_mem _ wt_792)) dX5_worst_48 ?_
          refine lv_lxor hx hb dX5_worst_51 ?_
          refine lv_land hx hb dX5_worst_52 ?_
          refine n_topl (show ((seI fr hi) &&& ((seI fr (eoS (fun w => drk (f 5 t) w (lk t) (k 5)) (drk (f 5 t) fr (lk t) (k 5)) (hi - fr) fr)) ^^^ (-1))) = (seI (eoS (fun w => drk (f 5 t) w (lk t) (k 5)) (drk (f 5 t) fr (lk t) (k 5)) (hi - fr) fr + 1) hi) from seI_rest (by omega) (by omega) hhi) ?_
          refine lv_lstore (lv' := [(4, .long (seI (eoS (fun w => drk (f 5 t) w (lk t) (k 5)) (drk (f 5 t) fr (lk t) (k 5)) (hi - fr) fr + 1) hi)), (6, .int (nI (Nat.max mo (eoS (fun w => drk (f 5 t) w (lk t) (k 5)) (drk (f 5 t) fr (lk t) (k 5)) (hi - fr) fr - fr + 1)))), (7, .long (seI fr (eoS (fun w => drk (f 5 t) w (lk t) (k 5)) (drk (f 5 t) fr (lk t) (k 5)) (hi - fr) fr))), (0, .ref (am 0)), (3, .int (nI t))]) hx hb dX5_worst_53 hl (by decide) rfl (fun ls hl => ?_)
          refine lv_goto (tgt := 6) hx hb dX5_worst_55 (by decide) ?_
          exact ih_2 (fu - 1) (eoS (fun w => drk (f 5 t) w (lk t) (k 5)) (drk (f 5 t) fr (lk t) (k 5)) (hi - fr) fr + 1) (Nat.max mo (eoS (fun w => drk (f 5 t) w (lk t) (k 5)) (drk (f 5 t) fr (lk t) (k 5)) (hi - fr) fr - fr + 1)) (by omega) (by omega) (Nat.max_le.mpr ⟨by omega, by omega⟩) (by rw [hu, show fu = (fu - 1) + 1 by omega, lwS, if_pos hfr]; rfl) (by omega) locs hS _ (lv_sub hl [3, 4, 0, 1] rfl)
  exact loop_1 (hi + 1 - lo + 1) (61) (lo) (0) (by omega) (by omega) (by omega) (rfl) (Nat.lt_succ_self _) locs hS _ (lv_sub hl [2, 4, 1, 0] rfl)

set_option maxHeartbeats 4000000 in
set_option maxRecDepth 100000 in
theorem c_X5_isEnoughByOne (l : Launch) (D : va_G) (G : ClassId × ClassId × ClassId) (H0 : Heap) (am n : Nat → Nat) (f : Nat → Nat → Nat) (k : Nat → Nat) (g : Nat → Nat → Nat) (j : Nat → Nat) (tx : Nat → Int32) (fl : Int32) (hh : Bool) (kp : Nat → Bool) (tr : Int64) (lk : Nat → Nat) (Bq : Nat) (lo hi mm : Nat) (hR : RK n f k g lk Bq) (hB : Bq ≤ 4096) (hlo : lo ≤ hi) (hhi : hi ≤ 60) (hm : mm ≤ 61) : Met l yX5_isEnoughByOne (wM yX5_isEnoughByOne cX5_isEnoughByOne 6 (some .boolean)) (rmD 5) (rP D G [.ref (am 0), .long (seI lo hi), .int (nI mm)] [(am 0, .inr (4, [.long (tr), .ref (am 1), .int (nI (j 0)), .ref (am 2), .ref (am 3), .ref (am 4), .ref (am 5), .ref (am 6), .ref (am 7), .ref (am 8), .ref (am 9), .int (nI (j 1)), .int (nI (j 2)), .int (nI (j 3)), .int (nI (j 4)), .int (fl), .int (bI (hh)), .ref (am 10), .ref (am 11), .ref (am 12), .int (nI (j 5))])), (am 4, .inl (G.1, 2, .inl (nF (g 4)))), (am 5, .inl (G.1, 12, .inl (nF (g 5)))), (am 6, .inl (G.1, 12, .inl (nF (g 6)))), (am 7, .inl (G.1, 12, .inl (nF (g 7)))), (am 8, .inl (G.1, 12, .inl (nF (g 8)))), (am 10, .inl (G.1, 240, .inl (nF (g 10))))] H0) (rQi (bI (enS (n 5) (cS f k) mm 1 lk lo hi)) H0) 0 0 (rF H0) := by
  refine ro_start (Qc := fun H0 => (rQi (bI (enS (n 5) (cS f k) mm 1 lk lo hi)) H0)) (by decide) (Nat.le_of_ble_eq_true rfl) ?_
  intro p e s m args below meth c hx hb hr hts hown hlocks hml hP hK hA hH0 ls hl locs hS
  have hl : lv_has ls 6 [(0, .ref (am 0)), (1, .long (seI lo hi)), (3, .int (nI mm))] := hl
  have hR0 := hR
  obtain ⟨m4, m5, ml, m6, i5, il, ih9⟩ := hR
  refine lv_lload_n hx hb dX5_isEnoughByOne_0 rfl (lv_at hl 1 rfl) ?_
  refine ro_i (roS_run (As := [.long (seI lo hi)]) (rest := []) hx hb hml hown hts Tg_M (c_X5_manyOf l D G _ lo hi (by omega) (by omega)) lk_RX5_124 ⟨rfl, rfl, Nat.le_of_ble_eq_true rfl, Nat.le_of_ble_eq_true rfl⟩ hP hK [] rfl rfl hl rfl (Nat.le_of_ble_eq_true rfl) dX5_isEnoughByOne_1 ⟨Nat.le_of_ble_eq_true rfl, Nat.le_of_ble_eq_true rfl⟩) hS hA (fun locs hS => ?_)
  refine lv_iload_n hx hb dX5_isEnoughByOne_4 rfl (lv_at hl 2 rfl) ?_
  refine n_icmp_gt (tgt := 12) hx hb dX5_isEnoughByOne_5 (by decide) (by omega) (by omega) (fun c_5 => ?_) (fun c_5 => ?_)
  · refine lv_iconst (v := nI (0)) hx hb dX5_isEnoughByOne_12 (by decide) ?_
    refine n_tope (show nI (0) = bI (false) from rfl) ?_
    refine lv_istore (lv' := [(4, .int (bI (false))), (0, .ref (am 0)), (1, .long (seI lo hi)), (3, .int (nI mm))]) hx hb dX5_isEnoughByOne_13 hl (by decide) rfl (fun ls hl => ?_)
    refine lv_iconst (v := nI (0)) hx hb dX5_isEnoughByOne_15 (by decide) ?_
    refine lv_istore (lv' := [(5, .int (nI 0)), (4, .int (bI (false))), (0, .ref (am 0)), (1, .long (seI lo hi)), (3, .int (nI mm))]) hx hb dX5_isEnoughByOne_16 hl (by decide) rfl (fun ls hl => ?_)
    have loop_1 : ∀ (fuel : Nat) (isv : Bool) (t : Nat), (t ≤ n 5) → (isv = true → enS (n 5) (cS f k) mm 1 lk lo hi = true) → (isv = false → ¬ hi - lo + 1 ≤ mm ∧ ∀ u, u < t → ¬ lwS (fun w => drk (f 5 u) w (lk u) (k 5)) hi 61 lo 0 ≤ mm) → (n 5 - t) < fuel → ∀ (locs : List Loc), va_S (rF s.heap) s.heap s.heap locs → ∀ (ls : Array Slot), lv_has ls 6 [(0, .ref (am 0)), (1, .long (seI lo hi)), (3, .int (nI mm)), (4, .int (bI (isv))), (5, .int (nI t))] → W p l e (rmD 5) s m args below meth c s.heap locs 0 0 (MQ below (rQi (bI (enS (n 5) (cS f k) mm 1 lk lo hi)) s.heap) args s 0 0 (rF s.heap)) (F0 m 18 ls []) := by
      intro fuel
      induction fuel with
      | zero => intro isv t h1 hu hv hfu; exact absurd hfu (Nat.not_lt_zero _)
      | succ fuel ih_2 =>
        intro isv t h1 hu hv hfu locs hS ls hl
        refine lv_iload hx hb dX5_isEnoughByOne_18 (lv_at hl 4 rfl) ?_
        refine lv_aload_n hx hb dX5_isEnoughByOne_20 rfl (lv_at hl 0 rfl) ?_
        refine va_get (D := D) (ci := 4) (v := .ref (am 4)) (C := RX5) (T := TX5) (N := 21) hx hb hts (iX5) hown hK hP 0 rfl rfl 5 (by decide) (hts _ (List.mem_cons_of_mem _ wt_605)) (fun _ h9 => h9) rfl dX5_isEnoughByOne_21 ?_
        refine lv_iconst (v := nI (0)) hx hb dX5_isEnoughByOne_24 (by decide) ?_
        refine n_iald hx hb hK hP 1 (f := g 4) rfl (by omega) dX5_isEnoughByOne_25 ?_
        refine n_tope (show nI (g 4 0) = nI (n 5) from congrArg nI (m4)) ?_
        refine n_icmp_ge (tgt := 58) hx hb dX5_isEnoughByOne_26 (by decide) (by omega) (by omega) (fun c_26 => ?_) (fun c_26 => ?_)
        · refine lv_iload hx hb dX5_isEnoughByOne_58 (lv_at hl 3 rfl) ?_
          exact ro_zret hx hb hr hlocks hS dX5_isEnoughByOne_60 (narrow_bI _) (congrArg bI (by rcases Bool.eq_false_or_eq_true isv with z | z; exact z.trans (hu z).symm; rw [z]; exact (enS1_no (hv z).1 (fun u h => (hv z).2 u (by omega))).symm))
        · refine lv_iload hx hb dX5_isEnoughByOne_29 (lv_at hl 3 rfl) ?_
          refine b_if_ne (tgt := 58) hx hb dX5_isEnoughByOne_31 (by decide) (fun c_31 => ?_) (fun c_31 => ?_)
          · refine lv_iload hx hb dX5_isEnoughByOne_58 (lv_at hl 3 rfl) ?_
            exact ro_zret hx hb hr hlocks hS dX5_isEnoughByOne_60 (narrow_bI _) (congrArg bI (by rw [c_31]; exact (hu c_31).symm))
          · refine lv_aload_n hx hb dX5_isEnoughByOne_34 rfl (lv_at hl 0 rfl) ?_
            refine lv_lload_n hx hb dX5_isEnoughByOne_35 rfl (lv_at hl 1 rfl) ?_
            refine lv_iload hx hb dX5_isEnoughByOne_36 (lv_at hl 4 rfl) ?_
            refine ro_i (roV_run (As := [.long (seI lo hi), .int (nI t)]) (rest := []) hx hb hml hown hts Tg_M (c_X5_worst l D G _ am n f k g j tx fl hh kp tr lk Bq lo hi t hR0 (by omega) (by omega) (by omega) (by omega)) lk_RX5_140 ⟨rfl, rfl, Nat.le_of_ble_eq_true rfl, Nat.le_of_ble_eq_true rfl⟩ hP hK [0, 2, 3, 4, 5, 6] rfl 0 4 rfl rfl rfl rfl hl rfl (Nat.le_of_ble_eq_true rfl) dX5_isEnoughByOne_38 ⟨Nat.le_of_ble_eq_true rfl, Nat.le_of_ble_eq_true rfl⟩) hS hA (fun locs hS => ?_)
            have e9 := lwS_le (fun w => drk (f 5 t) w (lk t) (k 5)) hi (by omega) 61 lo 0 (by omega)
            refine lv_iload_n hx hb dX5_isEnoughByOne_41 rfl (lv_at hl 2 rfl) ?_
            refine n_icmp_gt (tgt := 49) hx hb dX5_isEnoughByOne_42 (by decide) (by omega) (by omega) (fun c_42 => ?_) (fun c_42 => ?_)
            · refine lv_iconst (v := nI (0)) hx hb dX5_isEnoughByOne_49 (by decide) ?_
              refine n_tope (show nI (0) = bI (false) from rfl) ?_
              refine lv_istore (lv' := [(4, .int (bI (false))), (0, .ref (am 0)), (1, .long (seI lo hi)), (3, .int (nI mm)), (5, .int (nI t))]) hx hb dX5_isEnoughByOne_50 hl (by decide) rfl (fun ls hl => ?_)
              refine lv_iinc (v := nI (t + 1)) (lv' := [(5, .int (nI (t + 1))), (4, .int (bI (false))), (0, .ref (am 0)), (1, .long (seI lo hi)), (3, .int (nI mm))]) hx hb dX5_isEnoughByOne_52 hl (k := 4) rfl (nI_inc _ _) (by decide) rfl (fun ls hl => ?_)
              refine lv_goto (tgt := 18) hx hb dX5_isEnoughByOne_55 (by decide) ?_
              exact ih_2 (false) (t + 1) (by omega) (fun z => absurd z (by decide)) (fun _ => ⟨(hv c_31).1, lt_s (hv c_31).2 (by omega)⟩) (by omega) locs hS _ (lv_sub hl [2, 3, 4, 1, 0] rfl)
            · refine lv_iconst (v := nI (1)) hx hb dX5_isEnoughByOne_45 (by decide) ?_
              refine n_tope (show nI (1) = bI (true) from rfl) ?_
              refine lv_goto (tgt := 50) hx hb dX5_isEnoughByOne_46 (by decide) ?_
              refine lv_istore (lv' := [(4, .int (bI (true))), (0, .ref (am 0)), (1, .long (seI lo hi)), (3, .int (nI mm)), (5, .int (nI t))]) hx hb dX5_isEnoughByOne_50 hl (by decide) rfl (fun ls hl => ?_)
              refine lv_iinc (v := nI (t + 1)) (lv' := [(5, .int (nI (t + 1))), (4, .int (bI (true))), (0, .ref (am 0)), (1, .long (seI lo hi)), (3, .int (nI mm))]) hx hb dX5_isEnoughByOne_52 hl (k := 4) rfl (nI_inc _ _) (by decide) rfl (fun ls hl => ?_)
              refine lv_goto (tgt := 18) hx hb dX5_isEnoughByOne_55 (by decide) ?_
              exact ih_2 (true) (t + 1) (by omega) (fun _ => by rw [enS, show anyB (n 5) _ = true from decide_eq_true ⟨t, by omega, ((lw_spA _ hi mm 61 lo 0).mp c_42).2⟩, Bool.or_true]) (fun z => absurd z (by decide)) (by omega) locs hS _ (lv_sub hl [2, 3, 4, 1, 0] rfl)
    exact loop_1 (n 5 - 0 + 1) (false) (0) (by omega) (fun z => absurd z (by decide)) (fun _ => ⟨by omega, fun u hu => absurd hu (Nat.not_lt_zero u)⟩) (Nat.lt_succ_self _) locs hS _ (lv_sub hl [2, 3, 4, 1, 0] rfl)
  · refine lv_iconst (v := nI (1)) hx hb dX5_isEnoughByOne_8 (by decide) ?_
    refine n_tope (show nI (1) = bI (true) from rfl) ?_
    refine lv_goto (tgt := 13) hx hb dX5_isEnoughByOne_9 (by decide) ?_
    refine lv_istore (lv' := [(4, .int (bI (true))), (0, .ref (am 0)), (1, .long (seI lo hi)), (3, .int (nI mm))]) hx hb dX5_isEnoughByOne_13 hl (by decide) rfl (fun ls hl => ?_)
    refine lv_iconst (v := nI (0)) hx hb dX5_isEnoughByOne_15 (by decide) ?_
    refine lv_istore (lv' := [(5, .int (nI 0)), (4, .int (bI (true))), (0, .ref (am 0)), (1, .long (seI lo hi)), (3, .int (nI mm))]) hx hb dX5_isEnoughByOne_16 hl (by decide) rfl (fun ls hl => ?_)
    have loop_3 : ∀ (fuel : Nat) (isv : Bool) (t : Nat), (t ≤ n 5) → (isv = true → enS (n 5) (cS f k) mm 1 lk lo hi = true) → (isv = false → ¬ hi - lo + 1 ≤ mm ∧ ∀ u, u < t → ¬ lwS (fun w => drk (f 5 u) w (lk u) (k 5)) hi 61 lo 0 ≤ mm) → (n 5 - t) < fuel → ∀ (locs : List Loc), va_S (rF s.heap) s.heap s.heap locs → ∀ (ls : Array Slot), lv_has ls 6 [(0, .ref (am 0)), (1, .long (seI lo hi)), (3, .int (nI mm)), (4, .int (bI (isv))), (5, .int (nI t))] → W p l e (rmD 5) s m args below meth c s.heap locs 0 0 (MQ below (rQi (bI (enS (n 5) (cS f k) mm 1 lk lo hi)) s.heap) args s 0 0 (rF s.heap)) (F0 m 18 ls []) := by
      intro fuel
      induction fuel with
      | zero => intro isv t h1 hu hv hfu; exact absurd hfu (Nat.not_lt_zero _)
      | succ fuel ih_4 =>
        intro isv t h1 hu hv hfu locs hS ls hl
        refine lv_iload hx hb dX5_isEnoughByOne_18 (lv_at hl 4 rfl) ?_
        refine lv_aload_n hx hb dX5_isEnoughByOne_20 rfl (lv_at hl 0 rfl) ?_
        refine va_get (D := D) (ci := 4) (v := .ref (am 4)) (C := RX5) (T := TX5) (N := 21) hx hb hts (iX5) hown hK hP 0 rfl rfl 5 (by decide) (hts _ (List.mem_cons_of_mem _ wt_605)) (fun _ h9 => h9) rfl dX5_isEnoughByOne_21 ?_
        refine lv_iconst (v := nI (0)) hx hb dX5_isEnoughByOne_24 (by decide) ?_
        refine n_iald hx hb hK hP 1 (f := g 4) rfl (by omega) dX5_isEnoughByOne_25 ?_
        refine n_tope (show nI (g 4 0) = nI (n 5) from congrArg nI (m4)) ?_
        refine n_icmp_ge (tgt := 58) hx hb dX5_isEnoughByOne_26 (by decide) (by omega) (by omega) (fun c_26 => ?_) (fun c_26 => ?_)
        · refine lv_iload hx hb dX5_isEnoughByOne_58 (lv_at hl 3 rfl) ?_
          exact ro_zret hx hb hr hlocks hS dX5_isEnoughByOne_60 (narrow_bI _) (congrArg bI (by rcases Bool.eq_false_or_eq_true isv with z | z; exact z.trans (hu z).symm; rw [z]; exact (enS1_no (hv z).1 (fun u h => (hv z).2 u (by omega))).symm))
        · refine lv_iload hx hb dX5_isEnoughByOne_29 (lv_at hl 3 rfl) ?_
          refine b_if_ne (tgt := 58) hx hb dX5_isEnoughByOne_31 (by decide) (fun c_31 => ?_) (fun c_31 => ?_)
          · refine lv_iload hx hb dX5_isEnoughByOne_58 (lv_at hl 3 rfl) ?_
            exact ro_zret hx hb hr hlocks hS dX5_isEnoughByOne_60 (narrow_bI _) (congrArg bI (by rw [c_31]; exact (hu c_31).symm))
          · refine lv_aload_n hx hb dX5_isEnoughByOne_34 rfl (lv_at hl 0 rfl) ?_
            refine lv_lload_n hx hb dX5_isEnoughByOne_35 rfl (lv_at hl 1 rfl) ?_
            refine lv_iload hx hb dX5_isEnoughByOne_36 (lv_at hl 4 rfl) ?_
            refine ro_i (roV_run (As := [.long (seI lo hi), .int (nI t)]) (rest := []) hx hb hml hown hts Tg_M (c_X5_worst l D G _ am n f k g j tx fl hh kp tr lk Bq lo hi t hR0 (by omega) (by omega) (by omega) (by omega)) lk_RX5_140 ⟨rfl, rfl, Nat.le_of_ble_eq_true rfl, Nat.le_of_ble_eq_true rfl⟩ hP hK [0, 2, 3, 4, 5, 6] rfl 0 4 rfl rfl rfl rfl hl rfl (Nat.le_of_ble_eq_true rfl) dX5_isEnoughByOne_38 ⟨Nat.le_of_ble_eq_true rfl, Nat.le_of_ble_eq_true rfl⟩) hS hA (fun locs hS => ?_)
            have e9 := lwS_le (fun w => drk (f 5 t) w (lk t) (k 5)) hi (by omega) 61 lo 0 (by omega)
            refine lv_iload_n hx hb dX5_isEnoughByOne_41 rfl (lv_at hl 2 rfl) ?_
            refine n_icmp_gt (tgt := 49) hx hb dX5_isEnoughByOne_42 (by decide) (by omega) (by omega) (fun c_42 => ?_) (fun c_42 => ?_)
            · refine lv_iconst (v := nI (0)) hx hb dX5_isEnoughByOne_49 (by decide) ?_
              refine n_tope (show nI (0) = bI (false) from rfl) ?_
              refine lv_istore (lv' := [(4, .int (bI (false))), (0, .ref (am 0)), (1, .long (seI lo hi)), (3, .int (nI mm)), (5, .int (nI t))]) hx hb dX5_isEnoughByOne_50 hl (by decide) rfl (fun ls hl => ?_)
              refine lv_iinc (v := nI (t + 1)) (lv' := [(5, .int (nI (t + 1))), (4, .int (bI (false))), (0, .ref (am 0)), (1, .long (seI lo hi)), (3, .int (nI mm))]) hx hb dX5_isEnoughByOne_52 hl (k := 4) rfl (nI_inc _ _) (by decide) rfl (fun ls hl => ?_)
              refine lv_goto (tgt := 18) hx hb dX5_isEnoughByOne_55 (by decide) ?_
              exact ih_4 (false) (t + 1) (by omega) (fun z => absurd z (by decide)) (fun _ => ⟨(hv c_31).1, lt_s (hv c_31).2 (by omega)⟩) (by omega) locs hS _ (lv_sub hl [2, 3, 4, 1, 0] rfl)
            · refine lv_iconst (v := nI (1)) hx hb dX5_isEnoughByOne_45 (by decide) ?_
              refine n_tope (show nI (1) = bI (true) from rfl) ?_
              refine lv_goto (tgt := 50) hx hb dX5_isEnoughByOne_46 (by decide) ?_
              refine lv_istore (lv' := [(4, .int (bI (true))), (0, .ref (am 0)), (1, .long (seI lo hi)), (3, .int (nI mm)), (5, .int (nI t))]) hx hb dX5_isEnoughByOne_50 hl (by decide) rfl (fun ls hl => ?_)
              refine lv_iinc (v := nI (t + 1)) (lv' := [(5, .int (nI (t + 1))), (4, .int (bI (true))), (0, .ref (am 0)), (1, .long (seI lo hi)), (3, .int (nI mm))]) hx hb dX5_isEnoughByOne_52 hl (k := 4) rfl (nI_inc _ _) (by decide) rfl (fun ls hl => ?_)
              refine lv_goto (tgt := 18) hx hb dX5_isEnoughByOne_55 (by decide) ?_
              exact ih_4 (true) (t + 1) (by omega) (fun _ => by rw [enS, show anyB (n 5) _ = true from decide_eq_true ⟨t, by omega, ((lw_spA _ hi mm 61 lo 0).mp c_42).2⟩, Bool.or_true]) (fun z => absurd z (by decide)) (by omega) locs hS _ (lv_sub hl [2, 3, 4, 1, 0] rfl)
    exact loop_3 (n 5 - 0 + 1) (true) (0) (by omega) (fun _ => by rw [enS, decide_eq_true c_5]; rfl) (fun z => absurd z (by decide)) (Nat.lt_succ_self _) locs hS _ (lv_sub hl [2, 3, 4, 1, 0] rfl)

set_option maxHeartbeats 4000000 in
set_option maxRecDepth 100000 in
theorem c_X5_isEnoughByTwo (l : Launch) (D : va_G) (G : ClassId × ClassId × ClassId) (H0 : Heap) (am n : Nat → Nat) (f : Nat → Nat → Nat) (k : Nat → Nat) (g : Nat → Nat → Nat) (j : Nat → Nat) (tx : Nat → Int32) (fl : Int32) (hh : Bool) (kp : Nat → Bool) (tr : Int64) (lk : Nat → Nat) (Bq : Nat) (lo hi mm : Nat) (hR : RK n f k g lk Bq) (hB : Bq ≤ 4095) (hlo : lo ≤ hi) (hhi : hi ≤ 60) (hm : mm ≤ 61) : Met l yX5_isEnoughByTwo (wM yX5_isEnoughByTwo cX5_isEnoughByTwo 10 (some .boolean)) (rmD 6) (wP D G [.ref (am 0), .long (seI lo hi), .int (nI mm)] [(am 0, .inr (4, [.long (tr), .ref (am 1), .int (nI (j 0)), .ref (am 2), .ref (am 3), .ref (am 4), .ref (am 5), .ref (am 6), .ref (am 7), .ref (am 8), .ref (am 9), .int (nI (j 1)), .int (nI (j 2)), .int (nI (j 3)), .int (nI (j 4)), .int (fl), .int (bI (hh)), .ref (am 10), .ref (am 11), .ref (am 12), .int (nI (j 5))])), (am 4, .inl (G.1, 2, .inl (nF (g 4)))), (am 5, .inl (G.1, 12, .inl (nF (g 5)))), (am 6, .inl (G.1, 12, .inl (nF (g 6)))), (am 7, .inl (G.1, 12, .inl (nF (g 7)))), (am 8, .inl (G.1, 12, .inl (nF (g 8)))), (am 10, .inl (G.1, 240, .inl (nF (g 10))))] H0) (wQi (S := Unit) D (fun r _ => r = bI (enS (n 5) (cS f k) mm 2 lk lo hi)) [(am 0, .inr (4, [.long (tr), .ref (am 1), .int (nI (j 0)), .ref (am 2), .ref (am 3), .ref (am 4), .ref (am 5), .ref (am 6), .ref (am 7), .ref (am 8), .ref (am 9), .int (nI (j 1)), .int (nI (j 2)), .int (nI (j 3)), .int (nI (j 4)), .int (fl), .int (bI (hh)), .ref (am 10), .ref (am 11), .ref (am 12), .int (nI (j 5))])), (am 4, .inl (G.1, 2, .inl (nF (g 4)))), (am 5, .inl (G.1, 12, .inl (nF (g 5)))), (am 6, .inl (G.1, 12, .inl (nF (g 6)))), (am 7, .inl (G.1, 12, .inl (nF (g 7)))), (am 8, .inl (G.1, 12, .inl (nF (g 8)))), (am 10, .inl (G.1, 240, .inl (nF (g 10))))] (fun _ => [(am 0, .inr (4, [.long (tr), .ref (am 1), .int (nI (j 0)), .ref (am 2), .ref (am 3), .ref (am 4), .ref (am 5), .ref (am 6), .ref (am 7), .ref (am 8), .ref (am 9), .int (nI (j 1)), .int (nI (j 2)), .int (nI (j 3)), .int (nI (j 4)), .int (fl), .int (bI (hh)), .ref (am 10), .ref (am 11), .ref (am 12), .int (nI (j 5))])), (am 4, .inl (G.1, 2, .inl (nF (g 4)))), (am 5, .inl (G.1, 12, .inl (nF (g 5)))), (am 6, .inl (G.1, 12, .inl (nF (g 6)))), (am 7, .inl (G.1, 12, .inl (nF (g 7)))), (am 8, .inl (G.1, 12, .inl (nF (g 8)))), (am 10, .inl (G.1, 240, .inl (nF (g 10))))]) H0) 0 0 (va_A [(am 0, .inr (4, [.long (tr), .ref (am 1), .int (nI (j 0)), .ref (am 2), .ref (am 3), .ref (am 4), .ref (am 5), .ref (am 6), .ref (am 7), .ref (am 8), .ref (am 9), .int (nI (j 1)), .int (nI (j 2)), .int (nI (j 3)), .int (nI (j 4)), .int (fl), .int (bI (hh)), .ref (am 10), .ref (am 11), .ref (am 12), .int (nI (j 5))])), (am 4, .inl (G.1, 2, .inl (nF (g 4)))), (am 5, .inl (G.1, 12, .inl (nF (g 5)))), (am 6, .inl (G.1, 12, .inl (nF (g 6)))), (am 7, .inl (G.1, 12, .inl (nF (g 7)))), (am 8, .inl (G.1, 12, .inl (nF (g 8)))), (am 10, .inl (G.1, 240, .inl (nF (g 10))))] H0.size) := by
  refine wr_start (Qc := fun H0 => (wQi (S := Unit) D (fun r _ => r = bI (enS (n 5) (cS f k) mm 2 lk lo hi)) [(am 0, .inr (4, [.long (tr), .ref (am 1), .int (nI (j 0)), .ref (am 2), .ref (am 3), .ref (am 4), .ref (am 5), .ref (am 6), .ref (am 7), .ref (am 8), .ref (am 9), .int (nI (j 1)), .int (nI (j 2)), .int (nI (j 3)), .int (nI (j 4)), .int (fl), .int (bI (hh)), .ref (am 10), .ref (am 11), .ref (am 12), .int (nI (j 5))])), (am 4, .inl (G.1, 2, .inl (nF (g 4)))), (am 5, .inl (G.1, 12, .inl (nF (g 5)))), (am 6, .inl (G.1, 12, .inl (nF (g 6)))), (am 7, .inl (G.1, 12, .inl (nF (g 7)))), (am 8, .inl (G.1, 12, .inl (nF (g 8)))), (am 10, .inl (G.1, 240, .inl (nF (g 10))))] (fun _ => [(am 0, .inr (4, [.long (tr), .ref (am 1), .int (nI (j 0)), .ref (am 2), .ref (am 3), .ref (am 4), .ref (am 5), .ref (am 6), .ref (am 7), .ref (am 8), .ref (am 9), .int (nI (j 1)), .int (nI (j 2)), .int (nI (j 3)), .int (nI (j 4)), .int (fl), .int (bI (hh)), .ref (am 10), .ref (am 11), .ref (am 12), .int (nI (j 5))])), (am 4, .inl (G.1, 2, .inl (nF (g 4)))), (am 5, .inl (G.1, 12, .inl (nF (g 5)))), (am 6, .inl (G.1, 12, .inl (nF (g 6)))), (am 7, .inl (G.1, 12, .inl (nF (g 7)))), (am 8, .inl (G.1, 12, .inl (nF (g 8)))), (am 10, .inl (G.1, 240, .inl (nF (g 10))))]) H0)) (by decide) (Nat.le_of_ble_eq_true rfl) ?_
  intro p e s m args below meth c hx hb hr hts hown hlocks hml hK A hAe hA hH0 ls hl H locs hP hD hS
  have hl : lv_has ls 10 [(0, .ref (am 0)), (1, .long (seI lo hi)), (3, .int (nI mm))] := hl
  have hR0 := hR
  obtain ⟨m4, m5, ml, m6, i5, il, ih9⟩ := hR
  refine lv_aload_n hx hb dX5_isEnoughByTwo_0 rfl (lv_at hl 0 rfl) ?_
  refine lv_lload_n hx hb dX5_isEnoughByTwo_1 rfl (lv_at hl 1 rfl) ?_
  refine lv_iload_n hx hb dX5_isEnoughByTwo_2 rfl (lv_at hl 2 rfl) ?_
  refine ro_i (roV_run (As := [.long (seI lo hi), .int (nI mm)]) (rest := []) hx hb hml hown hts Tg_M (c_X5_isEnoughByOne l D G _ am n f k g j tx fl hh kp tr lk Bq lo hi mm hR0 (by omega) (by omega) (by omega) (by omega)) lk_RX5_144 ⟨rfl, rfl, Nat.le_of_ble_eq_true rfl, Nat.le_of_ble_eq_true rfl⟩ hP hK [0, 1, 2, 3, 4, 5, 6] rfl 0 4 rfl rfl rfl rfl hl rfl (Nat.le_of_ble_eq_true rfl) dX5_isEnoughByTwo_3 ⟨Nat.le_of_ble_eq_true rfl, Nat.le_of_ble_eq_true rfl⟩) hS hA (fun locs hS => ?_)
  refine lv_istore (lv' := [(4, .int (bI (enS (n 5) (cS f k) mm 1 lk lo hi))), (0, .ref (am 0)), (1, .long (seI lo hi)), (3, .int (nI mm))]) hx hb dX5_isEnoughByTwo_6 hl (by decide) rfl (fun ls hl => ?_)
  refine lv_iconst (v := nI (0)) hx hb dX5_isEnoughByTwo_8 (by decide) ?_
  refine lv_istore (lv' := [(5, .int (nI 0)), (4, .int (bI (enS (n 5) (cS f k) mm 1 lk lo hi))), (0, .ref (am 0)), (1, .long (seI lo hi)), (3, .int (nI mm))]) hx hb dX5_isEnoughByTwo_9 hl (by decide) rfl (fun ls hl => ?_)
  have loop_1 : ∀ (fuel : Nat) (isv : Bool) (t : Nat), (t ≤ n 5) → (isv = true → enS (n 5) (cS f k) mm 2 lk lo hi = true) → (isv = false → ¬ hi - lo + 1 ≤ mm ∧ ∀ u, u < t → spA (cS f k u (lk u)) hi (fun a e => enS (n 5) (cS f k) mm 1 (va_up lk u (lk u + 1)) a e) 61 lo = false) → (n 5 - t) < fuel → ∀ (H : Heap) (locs : List Loc), va_P D cls5 [(am 0, .inr (4, [.long (tr), .ref (am 1), .int (nI (j 0)), .ref (am 2), .ref (am 3), .ref (am 4), .ref (am 5), .ref (am 6), .ref (am 7), .ref (am 8), .ref (am 9), .int (nI (j 1)), .int (nI (j 2)), .int (nI (j 3)), .int (nI (j 4)), .int (fl), .int (bI (hh)), .ref (am 10), .ref (am 11), .ref (am 12), .int (nI (j 5))])), (am 4, .inl (G.1, 2, .inl (nF (g 4)))), (am 5, .inl (G.1, 12, .inl (nF (g 5)))), (am 6, .inl (G.1, 12, .inl (nF (g 6)))), (am 7, .inl (G.1, 12, .inl (nF (g 7)))), (am 8, .inl (G.1, 12, .inl (nF (g 8)))), (am 10, .inl (G.1, 240, .inl (nF (g 10))))] H → va_D A [(am 0, .inr (4, [.long (tr), .ref (am 1), .int (nI (j 0)), .ref (am 2), .ref (am 3), .ref (am 4), .ref (am 5), .ref (am 6), .ref (am 7), .ref (am 8), .ref (am 9), .int (nI (j 1)), .int (nI (j 2)), .int (nI (j 3)), .int (nI (j 4)), .int (fl), .int (bI (hh)), .ref (am 10), .ref (am 11), .ref (am 12), .int (nI (j 5))])), (am 4, .inl (G.1, 2, .inl (nF (g 4)))), (am 5, .inl (G.1, 12, .inl (nF (g 5)))), (am 6, .inl (G.1, 12, .inl (nF (g 6)))), (am 7, .inl (G.1, 12, .inl (nF (g 7)))), (am 8, .inl (G.1, 12, .inl (nF (g 8)))), (am 10, .inl (G.1, 240, .inl (nF (g 10))))] → va_S A s.heap H locs → ∀ (ls : Array Slot), lv_has ls 10 [(0, .ref (am 0)), (1, .long (seI lo hi)), (3, .int (nI mm)), (4, .int (bI (isv))), (5, .int (nI t))] → W p l e (rmD 6) s m args below meth c H locs 0 0 (MQ below (wQi (S := Unit) D (fun r _ => r = bI (enS (n 5) (cS f k) mm 2 lk lo hi)) [(am 0, .inr (4, [.long (tr), .ref (am 1), .int (nI (j 0)), .ref (am 2), .ref (am 3), .ref (am 4), .ref (am 5), .ref (am 6), .ref (am 7), .ref (am 8), .ref (am 9), .int (nI (j 1)), .int (nI (j 2)), .int (nI (j 3)), .int (nI (j 4)), .int (fl), .int (bI (hh)), .ref (am 10), .ref (am 11), .ref (am 12), .int (nI (j 5))])), (am 4, .inl (G.1, 2, .inl (nF (g 4)))), (am 5, .inl (G.1, 12, .inl (nF (g 5)))), (am 6, .inl (G.1, 12, .inl (nF (g 6)))), (am 7, .inl (G.1, 12, .inl (nF (g 7)))), (am 8, .inl (G.1, 12, .inl (nF (g 8)))), (am 10, .inl (G.1, 240, .inl (nF (g 10))))] (fun _ => [(am 0, .inr (4, [.long (tr), .ref (am 1), .int (nI (j 0)), .ref (am 2), .ref (am 3), .ref (am 4), .ref (am 5), .ref (am 6), .ref (am 7), .ref (am 8), .ref (am 9), .int (nI (j 1)), .int (nI (j 2)), .int (nI (j 3)), .int (nI (j 4)), .int (fl), .int (bI (hh)), .ref (am 10), .ref (am 11), .ref (am 12), .int (nI (j 5))])), (am 4, .inl (G.1, 2, .inl (nF (g 4)))), (am 5, .inl (G.1, 12, .inl (nF (g 5)))), (am 6, .inl (G.1, 12, .inl (nF (g 6)))), (am 7, .inl (G.1, 12, .inl (nF (g 7)))), (am 8, .inl (G.1, 12, .inl (nF (g 8)))), (am 10, .inl (G.1, 240, .inl (nF (g 10))))]) s.heap) args s 0 0 A) (F0 m 11 ls []) := by
    intro fuel
    induction fuel with
    | zero => intro isv t h1 hu hv hfu; exact absurd hfu (Nat.not_lt_zero _)
    | succ fuel ih_2 =>
      intro isv t h1 hu hv hfu H locs hP hD hS ls hl
      refine lv_iload hx hb dX5_isEnoughByTwo_11 (lv_at hl 4 rfl) ?_
      refine lv_aload_n hx hb dX5_isEnoughByTwo_13 rfl (lv_at hl 0 rfl) ?_
      refine va_get (D := D) (ci := 4) (v := .ref (am 4)) (C := RX5) (T := TX5) (N := 21) hx hb hts (iX5) hown hK hP 0 rfl rfl 5 (by decide) (hts _ (List.mem_cons_of_mem _ wt_605)) (fun _ h9 => h9) rfl dX5_isEnoughByTwo_14 ?_
      refine lv_iconst (v := nI (0)) hx hb dX5_isEnoughByTwo_17 (by decide) ?_
      refine n_iald hx hb hK hP 1 (f := g 4) rfl (by omega) dX5_isEnoughByTwo_18 ?_
      refine n_tope (show nI (g 4 0) = nI (n 5) from congrArg nI (m4)) ?_
      refine n_icmp_ge (tgt := 106) hx hb dX5_isEnoughByTwo_19 (by decide) (by omega) (by omega) (fun c_19 => ?_) (fun c_19 => ?_)
      · refine lv_iload hx hb dX5_isEnoughByTwo_106 (lv_at hl 3 rfl) ?_
        exact wr_zret (()) hx hb hr hlocks hAe hS dX5_isEnoughByTwo_108 (narrow_bI _) (hP) (congrArg bI (by rcases Bool.eq_false_or_eq_true isv with z | z; exact z.trans (hu z).symm; rw [z]; exact (enS_step (hv z).1 (fun u h => (hv z).2 u (by omega))).symm))
      · refine lv_iload hx hb dX5_isEnoughByTwo_22 (lv_at hl 3 rfl) ?_
        refine b_if_ne (tgt := 106) hx hb dX5_isEnoughByTwo_24 (by decide) (fun c_24 => ?_) (fun c_24 => ?_)
        · refine lv_iload hx hb dX5_isEnoughByTwo_106 (lv_at hl 3 rfl) ?_
          exact wr_zret (()) hx hb hr hlocks hAe hS dX5_isEnoughByTwo_108 (narrow_bI _) (hP) (congrArg bI (by rw [c_24]; exact (hu c_24).symm))
        · refine lv_lload_n hx hb dX5_isEnoughByTwo_27 rfl (lv_at hl 1 rfl) ?_
          refine lv_lstore (lv' := [(6, .long (seI lo hi)), (0, .ref (am 0)), (1, .long (seI lo hi)), (3, .int (nI mm)), (4, .int (bI (isv))), (5, .int (nI t))]) hx hb dX5_isEnoughByTwo_28 hl (by decide) rfl (fun ls hl => ?_)
          refine lv_iconst (v := nI (1)) hx hb dX5_isEnoughByTwo_30 (by decide) ?_
          refine n_tope (show nI (1) = bI (true) from rfl) ?_
          refine lv_istore (lv' := [(4, .int (bI (true))), (6, .long (seI lo hi)), (0, .ref (am 0)), (1, .long (seI lo hi)), (3, .int (nI mm)), (5, .int (nI t))]) hx hb dX5_isEnoughByTwo_31 hl (by decide) rfl (fun ls hl => ?_)
          have loop_3 : ∀ (fuel : Nat) (fu : Nat) (fr : Nat) (iw : Bool), (hi + 1 ≤ fu + fr) → (fr ≤ hi + 1) → (spA (cS f k t (lk t)) hi (fun a e => enS (n 5) (cS f k) mm 1 (va_up lk t (lk t + 1)) a e) 61 lo = (iw && spA (cS f k t (lk t)) hi (fun a e => enS (n 5) (cS f k) mm 1 (va_up lk t (lk t + 1)) a e) fu fr)) → (hi + 1 - fr) < fuel → ∀ (H : Heap) (locs : List Loc), va_P D cls5 [(am 0, .inr (4, [.long (tr), .ref (am 1), .int (nI (j 0)), .ref (am 2), .ref (am 3), .ref (am 4), .ref (am 5), .ref (am 6), .ref (am 7), .ref (am 8), .ref (am 9), .int (nI (j 1)), .int (nI (j 2)), .int (nI (j 3)), .int (nI (j 4)), .int (fl), .int (bI (hh)), .ref (am 10), .ref (am 11), .ref (am 12), .int (nI (j 5))])), (am 4, .inl (G.1, 2, .inl (nF (g 4)))), (am 5, .inl (G.1, 12, .inl (nF (g 5)))), (am 6, .inl (G.1, 12, .inl (nF (g 6)))), (am 7, .inl (G.1, 12, .inl (nF (g 7)))), (am 8, .inl (G.1, 12, .inl (nF (g 8)))), (am 10, .inl (G.1, 240, .inl (nF (g 10))))] H → va_D A [(am 0, .inr (4, [.long (tr), .ref (am 1), .int (nI (j 0)), .ref (am 2), .ref (am 3), .ref (am 4), .ref (am 5), .ref (am 6), .ref (am 7), .ref (am 8), .ref (am 9), .int (nI (j 1)), .int (nI (j 2)), .int (nI (j 3)), .int (nI (j 4)), .int (fl), .int (bI (hh)), .ref (am 10), .ref (am 11), .ref (am 12), .int (nI (j 5))])), (am 4, .inl (G.1, 2, .inl (nF (g 4)))), (am 5, .inl (G.1, 12, .inl (nF (g 5)))), (am 6, .inl (G.1, 12, .inl (nF (g 6)))), (am 7, .inl (G.1, 12, .inl (nF (g 7)))), (am 8, .inl (G.1, 12, .inl (nF (g 8)))), (am 10, .inl (G.1, 240, .inl (nF (g 10))))] → va_S A s.heap H locs → ∀ (ls : Array Slot), lv_has ls 10 [(0, .ref (am 0)), (1, .long (seI lo hi)), (3, .int (nI mm)), (4, .int (bI (iw))), (5, .int (nI t)), (6, .long (seI fr hi))] → W p l e (rmD 6) s m args below meth c H locs 0 0 (MQ below (wQi (S := Unit) D (fun r _ => r = bI (enS (n 5) (cS f k) mm 2 lk lo hi)) [(am 0, .inr (4, [.long (tr), .ref (am 1), .int (nI (j 0)), .ref (am 2), .ref (am 3), .ref (am 4), .ref (am 5), .ref (am 6), .ref (am 7), .ref (am 8), .ref (am 9), .int (nI (j 1)), .int (nI (j 2)), .int (nI (j 3)), .int (nI (j 4)), .int (fl), .int (bI (hh)), .ref (am 10), .ref (am 11), .ref (am 12), .int (nI (j 5))])), (am 4, .inl (G.1, 2, .inl (nF (g 4)))), (am 5, .inl (G.1, 12, .inl (nF (g 5)))), (am 6, .inl (G.1, 12, .inl (nF (g 6)))), (am 7, .inl (G.1, 12, .inl (nF (g 7)))), (am 8, .inl (G.1, 12, .inl (nF (g 8)))), (am 10, .inl (G.1, 240, .inl (nF (g 10))))] (fun _ => [(am 0, .inr (4, [.long (tr), .ref (am 1), .int (nI (j 0)), .ref (am 2), .ref (am 3), .ref (am 4), .ref (am 5), .ref (am 6), .ref (am 7), .ref (am 8), .ref (am 9), .int (nI (j 1)), .int (nI (j 2)), .int (nI (j 3)), .int (nI (j 4)), .int (fl), .int (bI (hh)), .ref (am 10), .ref (am 11), .ref (am 12), .int (nI (j 5))])), (am 4, .inl (G.1, 2, .inl (nF (g 4)))), (am 5, .inl (G.1, 12, .inl (nF (g 5)))), (am 6, .inl (G.1, 12, .inl (nF (g 6)))), (am 7, .inl (G.1, 12, .inl (nF (g 7)))), (am 8, .inl (G.1, 12, .inl (nF (g 8)))), (am 10, .inl (G.1, 240, .inl (nF (g 10))))]) s.heap) args s 0 0 A) (F0 m 33 ls []) := by
            intro fuel
            induction fuel with
            | zero => intro fu fr iw h2 h3 hs hfu; exact absurd hfu (Nat.not_lt_zero _)
            | succ fuel ih_4 =>
              intro fu fr iw h2 h3 hs hfu H locs hP hD hS ls hl
              refine lv_lload hx hb dX5_isEnoughByTwo_33 (lv_at hl 5 rfl) ?_
              refine lv_lconst (v := 0) hx hb dX5_isEnoughByTwo_35 rfl ?_
              refine W.lcmp hx hb dX5_isEnoughByTwo_36 ?_
              refine lv_if_eq (tgt := 100) hx hb dX5_isEnoughByTwo_37 (by decide) (fun c_37 => ?_) (fun c_37 => ?_)
              · have hfr : hi < fr := (seI_0 hhi).mp (cmpz.mp c_37)
                have hs0 : spA (cS f k t (lk t)) hi (fun a e => enS (n 5) (cS f k) mm 1 (va_up lk t (lk t + 1)) a e) 61 lo = iw := by rw [hs, spA_end hfr, Bool.and_true]
                refine lv_iinc (v := nI (t + 1)) (lv' := [(5, .int (nI (t + 1))), (0, .ref (am 0)), (1, .long (seI lo hi)), (3, .int (nI mm)), (4, .int (bI (iw))), (6, .long (seI fr hi))]) hx hb dX5_isEnoughByTwo_100 hl (k := 4) rfl (nI_inc _ _) (by decide) rfl (fun ls hl => ?_)
                refine lv_goto (tgt := 11) hx hb dX5_isEnoughByTwo_103 (by decide) ?_
                exact ih_2 (iw) (t + 1) (by omega) (fun z => by rw [enS, show anyB (n 5) _ = true from decide_eq_true ⟨t, by omega, hs0.trans z⟩, Bool.or_true]) (fun z => ⟨(hv c_24).1, lt_s (hv c_24).2 (hs0.trans z)⟩) (by omega) H locs hP hD hS _ (lv_sub hl [1, 2, 3, 4, 0] rfl)
              · have hfr : fr ≤ hi := Nat.not_lt.mp (fun z => c_37 (cmpz.mpr ((seI_0 hhi).mpr z)))
                refine lv_iload hx hb dX5_isEnoughByTwo_40 (lv_at hl 3 rfl) ?_
                refine b_if_eq (tgt := 100) hx hb dX5_isEnoughByTwo_42 (by decide) (fun c_42 => ?_) (fun c_42 => ?_)
                · have hs0 : spA (cS f k t (lk t)) hi (fun a e => enS (n 5) (cS f k) mm 1 (va_up lk t (lk t + 1)) a e) 61 lo = iw := by rw [hs, c_42, Bool.false_and]
                  refine lv_iinc (v := nI (t + 1)) (lv' := [(5, .int (nI (t + 1))), (0, .ref (am 0)), (1, .long (seI lo hi)), (3, .int (nI mm)), (4, .int (bI (iw))), (6, .long (seI fr hi))]) hx hb dX5_isEnoughByTwo_100 hl (k := 4) rfl (nI_inc _ _) (by decide) rfl (fun ls hl => ?_)
                  refine lv_goto (tgt := 11) hx hb dX5_isEnoughByTwo_103 (by decide) ?_
                  exact ih_2 (iw) (t + 1) (by omega) (fun z => by rw [enS, show anyB (n 5) _ = true from decide_eq_true ⟨t, by omega, hs0.trans z⟩, Bool.or_true]) (fun z => ⟨(hv c_24).1, lt_s (hv c_24).2 (hs0.trans z)⟩) (by omega) H locs hP hD hS _ (lv_sub hl [1, 2, 3, 4, 0] rfl)
                · refine lv_aload_n hx hb dX5_isEnoughByTwo_45 rfl (lv_at hl 0 rfl) ?_
                  refine lv_lload hx hb dX5_isEnoughByTwo_46 (lv_at hl 5 rfl) ?_
                  refine lv_iload hx hb dX5_isEnoughByTwo_48 (lv_at hl 4 rfl) ?_
                  refine ro_l (roV_run (As := [.long (seI fr hi), .int (nI t)]) (rest := []) hx hb hml hown hts Tg_M (c_X5_part l D G _ am n f k g j tx fl hh kp tr lk Bq fr hi t hR0 (by omega) (by omega) (by omega) (by omega)) lk_RX5_134 ⟨rfl, rfl, Nat.le_of_ble_eq_true rfl, Nat.le_of_ble_eq_true rfl⟩ hP hK [0, 2, 3, 4, 5, 6] rfl 0 4 rfl rfl rfl rfl hl rfl (Nat.le_of_ble_eq_true rfl) dX5_isEnoughByTwo_50 ⟨Nat.le_of_ble_eq_true rfl, Nat.le_of_ble_eq_true rfl⟩) hS hA (fun locs hS => ?_)
                  have e8 := eoS_in (fun w => drk (f 5 t) w (lk t) (k 5)) (drk (f 5 t) fr (lk t) (k 5)) (hi - fr) fr
                  refine lv_lstore (lv' := [(8, .long (seI fr (eoS (fun w => drk (f 5 t) w (lk t) (k 5)) (drk (f 5 t) fr (lk t) (k 5)) (hi - fr) fr))), (0, .ref (am 0)), (1, .long (seI lo hi)), (3, .int (nI mm)), (4, .int (bI (iw))), (5, .int (nI t)), (6, .long (seI fr hi))]) hx hb dX5_isEnoughByTwo_53 hl (by decide) rfl (fun ls hl => ?_)
                  refine lv_lload hx hb dX5_isEnoughByTwo_55 (lv_at hl 6 rfl) ?_
                  refine lv_lload hx hb dX5_isEnoughByTwo_57 (lv_at hl 0 rfl) ?_
                  refine lv_ldc2 (v := -1) hx hb hown (hts _ (List.mem_cons_of_mem _ wt_792)) dX5_isEnoughByTwo_59 ?_
                  refine lv_lxor hx hb dX5_isEnoughByTwo_62 ?_
                  refine lv_land hx hb dX5_isEnoughByTwo_63 ?_
                  refine n_topl (show ((seI fr hi) &&& ((seI fr (eoS (fun w => drk (f 5 t) w (lk t) (k 5)) (drk (f 5 t) fr (lk t) (k 5)) (hi - fr) fr)) ^^^ (-1))) = (seI (eoS (fun w => drk (f 5 t) w (lk t) (k 5)) (drk (f 5 t) fr (lk t) (k 5)) (hi - fr) fr + 1) hi) from seI_rest (by omega) (by omega) hhi) ?_
                  refine lv_lstore (lv' := [(6, .long (seI (eoS (fun w => drk (f 5 t) w (lk t) (k 5)) (drk (f 5 t) fr (lk t) (k 5)) (hi - fr) fr + 1) hi)), (8, .long (seI fr (eoS (fun w => drk (f 5 t) w (lk t) (k 5)) (drk (f 5 t) fr (lk t) (k 5)) (hi - fr) fr))), (0, .ref (am 0)), (1, .long (seI lo hi)), (3, .int (nI mm)), (4, .int (bI (iw))), (5, .int (nI t))]) hx hb dX5_isEnoughByTwo_64 hl (by decide) rfl (fun ls hl => ?_)
                  refine lv_aload_n hx hb dX5_isEnoughByTwo_66 rfl (lv_at hl 2 rfl) ?_
                  refine va_get (D := D) (ci := 4) (v := .ref (am 10)) (C := RX5) (T := TX5) (N := 21) hx hb hts (iX5) hown hK hP 0 rfl rfl 17 (by decide) (hts _ (List.mem_cons_of_mem _ wt_617)) (fun _ h9 => h9) rfl dX5_isEnoughByTwo_67 ?_
                  refine lv_iload hx hb dX5_isEnoughByTwo_70 (lv_at hl 6 rfl) ?_
                  refine lv_dup2_11 hx hb dX5_isEnoughByTwo_72 rfl rfl ?_
                  refine n_iald hx hb hK hP 6 (f := g 10) rfl (by omega) dX5_isEnoughByTwo_73 ?_
                  refine n_tope (show nI (g 10 t) = nI (lk t) from congrArg nI ((ml t (by omega)).1)) ?_
                  refine lv_iconst (v := nI (1)) hx hb dX5_isEnoughByTwo_74 (by decide) ?_
                  refine n_iadd hx hb dX5_isEnoughByTwo_75 ?_
                  refine n_iast hx hb hK hP hD hS 6 (f := g 10) rfl (by omega) dX5_isEnoughByTwo_76 (fun H locs hP hD hS => ?_)
                  have hP : va_P D cls5 [(am 0, .inr (4, [.long (tr), .ref (am 1), .int (nI (j 0)), .ref (am 2), .ref (am 3), .ref (am 4), .ref (am 5), .ref (am 6), .ref (am 7), .ref (am 8), .ref (am 9), .int (nI (j 1)), .int (nI (j 2)), .int (nI (j 3)), .int (nI (j 4)), .int (fl), .int (bI (hh)), .ref (am 10), .ref (am 11), .ref (am 12), .int (nI (j 5))])), (am 4, .inl (G.1, 2, .inl (nF (g 4)))), (am 5, .inl (G.1, 12, .inl (nF (g 5)))), (am 6, .inl (G.1, 12, .inl (nF (g 6)))), (am 7, .inl (G.1, 12, .inl (nF (g 7)))), (am 8, .inl (G.1, 12, .inl (nF (g 8)))), (am 10, .inl (G.1, 240, .inl (nF (va_up (g 10) t ((lk t) + 1)))))] H := hP
                  have hD : va_D A [(am 0, .inr (4, [.long (tr), .ref (am 1), .int (nI (j 0)), .ref (am 2), .ref (am 3), .ref (am 4), .ref (am 5), .ref (am 6), .ref (am 7), .ref (am 8), .ref (am 9), .int (nI (j 1)), .int (nI (j 2)), .int (nI (j 3)), .int (nI (j 4)), .int (fl), .int (bI (hh)), .ref (am 10), .ref (am 11), .ref (am 12), .int (nI (j 5))])), (am 4, .inl (G.1, 2, .inl (nF (g 4)))), (am 5, .inl (G.1, 12, .inl (nF (g 5)))), (am 6, .inl (G.1, 12, .inl (nF (g 6)))), (am 7, .inl (G.1, 12, .inl (nF (g 7)))), (am 8, .inl (G.1, 12, .inl (nF (g 8)))), (am 10, .inl (G.1, 240, .inl (nF (va_up (g 10) t ((lk t) + 1)))))] := hD
                  have hP : va_P D cls5 [(am 0, .inr (4, [.long (tr), .ref (am 1), .int (nI (j 0)), .ref (am 2), .ref (am 3), .ref (am 4), .ref (am 5), .ref (am 6), .ref (am 7), .ref (am 8), .ref (am 9), .int (nI (j 1)), .int (nI (j 2)), .int (nI (j 3)), .int (nI (j 4)), .int (fl), .int (bI (hh)), .ref (am 10), .ref (am 11), .ref (am 12), .int (nI (j 5))])), (am 4, .inl (G.1, 2, .inl (nF (g 4)))), (am 5, .inl (G.1, 12, .inl (nF (g 5)))), (am 6, .inl (G.1, 12, .inl (nF (g 6)))), (am 7, .inl (G.1, 12, .inl (nF (g 7)))), (am 8, .inl (G.1, 12, .inl (nF (g 8)))), (am 10, .inl (G.1, 240, .inl (nF (va_up (g 10) t (lk t + 1)))))] H := hP
                  have hD : va_D A [(am 0, .inr (4, [.long (tr), .ref (am 1), .int (nI (j 0)), .ref (am 2), .ref (am 3), .ref (am 4), .ref (am 5), .ref (am 6), .ref (am 7), .ref (am 8), .ref (am 9), .int (nI (j 1)), .int (nI (j 2)), .int (nI (j 3)), .int (nI (j 4)), .int (fl), .int (bI (hh)), .ref (am 10), .ref (am 11), .ref (am 12), .int (nI (j 5))])), (am 4, .inl (G.1, 2, .inl (nF (g 4)))), (am 5, .inl (G.1, 12, .inl (nF (g 5)))), (am 6, .inl (G.1, 12, .inl (nF (g 6)))), (am 7, .inl (G.1, 12, .inl (nF (g 7)))), (am 8, .inl (G.1, 12, .inl (nF (g 8)))), (am 10, .inl (G.1, 240, .inl (nF (va_up (g 10) t (lk t + 1)))))] := hD
                  refine lv_aload_n hx hb dX5_isEnoughByTwo_77 rfl (lv_at hl 2 rfl) ?_
                  refine lv_lload hx hb dX5_isEnoughByTwo_78 (lv_at hl 1 rfl) ?_
                  refine lv_iload_n hx hb dX5_isEnoughByTwo_80 rfl (lv_at hl 4 rfl) ?_
                  refine ro_i (roV_run (As := [.long (seI fr (eoS (fun w => drk (f 5 t) w (lk t) (k 5)) (drk (f 5 t) fr (lk t) (k 5)) (hi - fr) fr)), .int (nI mm)]) (rest := []) hx hb hml hown hts Tg_M (c_X5_isEnoughByOne l D G _ am n f k (va_up g 10 (va_up (g 10) t (lk t + 1))) j tx fl hh kp tr (va_up lk t (lk t + 1)) (Bq + 1) fr (eoS (fun w => drk (f 5 t) w (lk t) (k 5)) (drk (f 5 t) fr (lk t) (k 5)) (hi - fr) fr) mm (RK_up hR0 (by omega)) (by omega) (by omega) (by omega) (by omega)) lk_RX5_144 ⟨rfl, rfl, Nat.le_of_ble_eq_true rfl, Nat.le_of_ble_eq_true rfl⟩ hP hK [0, 1, 2, 3, 4, 5, 6] rfl 0 4 rfl rfl rfl rfl hl rfl (Nat.le_of_ble_eq_true rfl) dX5_isEnoughByTwo_81 ⟨Nat.le_of_ble_eq_true rfl, Nat.le_of_ble_eq_true rfl⟩) hS hA (fun locs hS => ?_)
                  refine lv_istore (lv' := [(4, .int (bI (enS (n 5) (cS f k) mm 1 (va_up lk t (lk t + 1)) fr (eoS (fun w => drk (f 5 t) w (lk t) (k 5)) (drk (f 5 t) fr (lk t) (k 5)) (hi - fr) fr)))), (6, .long (seI (eoS (fun w => drk (f 5 t) w (lk t) (k 5)) (drk (f 5 t) fr (lk t) (k 5)) (hi - fr) fr + 1) hi)), (8, .long (seI fr (eoS (fun w => drk (f 5 t) w (lk t) (k 5)) (drk (f 5 t) fr (lk t) (k 5)) (hi - fr) fr))), (0, .ref (am 0)), (1, .long (seI lo hi)), (3, .int (nI mm)), (5, .int (nI t))]) hx hb dX5_isEnoughByTwo_84 hl (by decide) rfl (fun ls hl => ?_)
                  refine lv_aload_n hx hb dX5_isEnoughByTwo_86 rfl (lv_at hl 3 rfl) ?_
                  refine va_get (D := D) (ci := 4) (v := .ref (am 10)) (C := RX5) (T := TX5) (N := 21) hx hb hts (iX5) hown hK hP 0 rfl rfl 17 (by decide) (hts _ (List.mem_cons_of_mem _ wt_617)) (fun _ h9 => h9) rfl dX5_isEnoughByTwo_87 ?_
                  refine lv_iload hx hb dX5_isEnoughByTwo_90 (lv_at hl 6 rfl) ?_
                  refine lv_dup2_11 hx hb dX5_isEnoughByTwo_92 rfl rfl ?_
                  refine n_iald hx hb hK hP 6 (f := va_up (g 10) t (lk t + 1)) rfl (by omega) dX5_isEnoughByTwo_93 ?_
                  refine n_tope (show nI ((va_up (g 10) t (lk t + 1)) t) = nI (lk t + 1) from congrArg nI (by simp [va_up])) ?_
                  refine lv_iconst (v := nI (1)) hx hb dX5_isEnoughByTwo_94 (by decide) ?_
                  refine n_isub hx hb dX5_isEnoughByTwo_95 (by omega) ?_
                  refine n_iast hx hb hK hP hD hS 6 (f := va_up (g 10) t (lk t + 1)) rfl (by omega) dX5_isEnoughByTwo_96 (fun H locs hP hD hS => ?_)
                  have hP : va_P D cls5 [(am 0, .inr (4, [.long (tr), .ref (am 1), .int (nI (j 0)), .ref (am 2), .ref (am 3), .ref (am 4), .ref (am 5), .ref (am 6), .ref (am 7), .ref (am 8), .ref (am 9), .int (nI (j 1)), .int (nI (j 2)), .int (nI (j 3)), .int (nI (j 4)), .int (fl), .int (bI (hh)), .ref (am 10), .ref (am 11), .ref (am 12), .int (nI (j 5))])), (am 4, .inl (G.1, 2, .inl (nF (g 4)))), (am 5, .inl (G.1, 12, .inl (nF (g 5)))), (am 6, .inl (G.1, 12, .inl (nF (g 6)))), (am 7, .inl (G.1, 12, .inl (nF (g 7)))), (am 8, .inl (G.1, 12, .inl (nF (g 8)))), (am 10, .inl (G.1, 240, .inl (nF (va_up (va_up (g 10) t (lk t + 1)) t ((lk t + 1) - 1)))))] H := hP
                  have hD : va_D A [(am 0, .inr (4, [.long (tr), .ref (am 1), .int (nI (j 0)), .ref (am 2), .ref (am 3), .ref (am 4), .ref (am 5), .ref (am 6), .ref (am 7), .ref (am 8), .ref (am 9), .int (nI (j 1)), .int (nI (j 2)), .int (nI (j 3)), .int (nI (j 4)), .int (fl), .int (bI (hh)), .ref (am 10), .ref (am 11), .ref (am 12), .int (nI (j 5))])), (am 4, .inl (G.1, 2, .inl (nF (g 4)))), (am 5, .inl (G.1, 12, .inl (nF (g 5)))), (am 6, .inl (G.1, 12, .inl (nF (g 6)))), (am 7, .inl (G.1, 12, .inl (nF (g 7)))), (am 8, .inl (G.1, 12, .inl (nF (g 8)))), (am 10, .inl (G.1, 240, .inl (nF (va_up (va_up (g 10) t (lk t + 1)) t ((lk t + 1) - 1)))))] := hD
                  rw [up_back (ml t (by omega)).1] at hP hD
                  have hP : va_P D cls5 [(am 0, .inr (4, [.long (tr), .ref (am 1), .int (nI (j 0)), .ref (am 2), .ref (am 3), .ref (am 4), .ref (am 5), .ref (am 6), .ref (am 7), .ref (am 8), .ref (am 9), .int (nI (j 1)), .int (nI (j 2)), .int (nI (j 3)), .int (nI (j 4)), .int (fl), .int (bI (hh)), .ref (am 10), .ref (am 11), .ref (am 12), .int (nI (j 5))])), (am 4, .inl (G.1, 2, .inl (nF (g 4)))), (am 5, .inl (G.1, 12, .inl (nF (g 5)))), (am 6, .inl (G.1, 12, .inl (nF (g 6)))), (am 7, .inl (G.1, 12, .inl (nF (g 7)))), (am 8, .inl (G.1, 12, .inl (nF (g 8)))), (am 10, .inl (G.1, 240, .inl (nF (g 10))))] H := hP
                  have hD : va_D A [(am 0, .inr (4, [.long (tr), .ref (am 1), .int (nI (j 0)), .ref (am 2), .ref (am 3), .ref (am 4), .ref (am 5), .ref (am 6), .ref (am 7), .ref (am 8), .ref (am 9), .int (nI (j 1)), .int (nI (j 2)), .int (nI (j 3)), .int (nI (j 4)), .int (fl), .int (bI (hh)), .ref (am 10), .ref (am 11), .ref (am 12), .int (nI (j 5))])), (am 4, .inl (G.1, 2, .inl (nF (g 4)))), (am 5, .inl (G.1, 12, .inl (nF (g 5)))), (am 6, .inl (G.1, 12, .inl (nF (g 6)))), (am 7, .inl (G.1, 12, .inl (nF (g 7)))), (am 8, .inl (G.1, 12, .inl (nF (g 8)))), (am 10, .inl (G.1, 240, .inl (nF (g 10))))] := hD
                  refine lv_goto (tgt := 33) hx hb dX5_isEnoughByTwo_97 (by decide) ?_
                  exact ih_4 (fu - 1) (eoS (fun w => drk (f 5 t) w (lk t) (k 5)) (drk (f 5 t) fr (lk t) (k 5)) (hi - fr) fr + 1) (enS (n 5) (cS f k) mm 1 (va_up lk t (lk t + 1)) fr (eoS (fun w => drk (f 5 t) w (lk t) (k 5)) (drk (f 5 t) fr (lk t) (k 5)) (hi - fr) fr)) (by omega) (by omega) (by rw [hs, c_42, Bool.true_and, show fu = (fu - 1) + 1 by omega, spA, if_pos hfr]; rfl) (by omega) H locs hP hD hS _ (lv_sub hl [3, 4, 5, 0, 6, 1] rfl)
          exact loop_3 (hi + 1 - lo + 1) (61) (lo) (true) (by omega) (by omega) (rfl) (Nat.lt_succ_self _) H locs hP hD hS _ (lv_sub hl [2, 3, 4, 0, 5, 1] rfl)
  exact loop_1 (n 5 - 0 + 1) (enS (n 5) (cS f k) mm 1 lk lo hi) (0) (by omega) (enS_mono _ _ _ 1 _ _ _) (fun z => ⟨enS_size z, fun u hu => absurd hu (Nat.not_lt_zero u)⟩) (Nat.lt_succ_self _) H locs hP hD hS _ (lv_sub hl [2, 3, 4, 1, 0] rfl)

set_option maxHeartbeats 4000000 in
set_option maxRecDepth 100000 in
theorem c_X5_isEnoughByThree (l : Launch) (D : va_G) (G : ClassId × ClassId × ClassId) (H0 : Heap) (am n : Nat → Nat) (f : Nat → Nat → Nat) (k : Nat → Nat) (g : Nat → Nat → Nat) (j : Nat → Nat) (tx : Nat → Int32) (fl : Int32) (hh : Bool) (kp : Nat → Bool) (tr : Int64) (lk : Nat → Nat) (Bq : Nat) (lo hi mm : Nat) (hR : RK n f k g lk Bq) (hB : Bq ≤ 4094) (hlo : lo ≤ hi) (hhi : hi ≤ 60) (hm : mm ≤ 61) : Met l yX5_isEnoughByThree (wM yX5_isEnoughByThree cX5_isEnoughByThree 10 (some .boolean)) (rmD 7) (wP D G [.ref (am 0), .long (seI lo hi), .int (nI mm)] [(am 0, .inr (4, [.long (tr), .ref (am 1), .int (nI (j 0)), .ref (am 2), .ref (am 3), .ref (am 4), .ref (am 5), .ref (am 6), .ref (am 7), .ref (am 8), .ref (am 9), .int (nI (j 1)), .int (nI (j 2)), .int (nI (j 3)), .int (nI (j 4)), .int (fl), .int (bI (hh)), .ref (am 10), .ref (am 11), .ref (am 12), .int (nI (j 5))])), (am 4, .inl (G.1, 2, .inl (nF (g 4)))), (am 5, .inl (G.1, 12, .inl (nF (g 5)))), (am 6, .inl (G.1, 12, .inl (nF (g 6)))), (am 7, .inl (G.1, 12, .inl (nF (g 7)))), (am 8, .inl (G.1, 12, .inl (nF (g 8)))), (am 10, .inl (G.1, 240, .inl (nF (g 10))))] H0) (wQi (S := Unit) D (fun r _ => r = bI (enS (n 5) (cS f k) mm 3 lk lo hi)) [(am 0, .inr (4, [.long (tr), .ref (am 1), .int (nI (j 0)), .ref (am 2), .ref (am 3), .ref (am 4), .ref (am 5), .ref (am 6), .ref (am 7), .ref (am 8), .ref (am 9), .int (nI (j 1)), .int (nI (j 2)), .int (nI (j 3)), .int (nI (j 4)), .int (fl), .int (bI (hh)), .ref (am 10), .ref (am 11), .ref (am 12), .int (nI (j 5))])), (am 4, .inl (G.1, 2, .inl (nF (g 4)))), (am 5, .inl (G.1, 12, .inl (nF (g 5)))), (am 6, .inl (G.1, 12, .inl (nF (g 6)))), (am 7, .inl (G.1, 12, .inl (nF (g 7)))), (am 8, .inl (G.1, 12, .inl (nF (g 8)))), (am 10, .inl (G.1, 240, .inl (nF (g 10))))] (fun _ => [(am 0, .inr (4, [.long (tr), .ref (am 1), .int (nI (j 0)), .ref (am 2), .ref (am 3), .ref (am 4), .ref (am 5), .ref (am 6), .ref (am 7), .ref (am 8), .ref (am 9), .int (nI (j 1)), .int (nI (j 2)), .int (nI (j 3)), .int (nI (j 4)), .int (fl), .int (bI (hh)), .ref (am 10), .ref (am 11), .ref (am 12), .int (nI (j 5))])), (am 4, .inl (G.1, 2, .inl (nF (g 4)))), (am 5, .inl (G.1, 12, .inl (nF (g 5)))), (am 6, .inl (G.1, 12, .inl (nF (g 6)))), (am 7, .inl (G.1, 12, .inl (nF (g 7)))), (am 8, .inl (G.1, 12, .inl (nF (g 8)))), (am 10, .inl (G.1, 240, .inl (nF (g 10))))]) H0) 0 0 (va_A [(am 0, .inr (4, [.long (tr), .ref (am 1), .int (nI (j 0)), .ref (am 2), .ref (am 3), .ref (am 4), .ref (am 5), .ref (am 6), .ref (am 7), .ref (am 8), .ref (am 9), .int (nI (j 1)), .int (nI (j 2)), .int (nI (j 3)), .int (nI (j 4)), .int (fl), .int (bI (hh)), .ref (am 10), .ref (am 11), .ref (am 12), .int (nI (j 5))])), (am 4, .inl (G.1, 2, .inl (nF (g 4)))), (am 5, .inl (G.1, 12, .inl (nF (g 5)))), (am 6, .inl (G.1, 12, .inl (nF (g 6)))), (am 7, .inl (G.1, 12, .inl (nF (g 7)))), (am 8, .inl (G.1, 12, .inl (nF (g 8)))), (am 10, .inl (G.1, 240, .inl (nF (g 10))))] H0.size) := by
  refine wr_start (Qc := fun H0 => (wQi (S := Unit) D (fun r _ => r = bI (enS (n 5) (cS f k) mm 3 lk lo hi)) [(am 0, .inr (4, [.long (tr), .ref (am 1), .int (nI (j 0)), .ref (am 2), .ref (am 3), .ref (am 4), .ref (am 5), .ref (am 6), .ref (am 7), .ref (am 8), .ref (am 9), .int (nI (j 1)), .int (nI (j 2)), .int (nI (j 3)), .int (nI (j 4)), .int (fl), .int (bI (hh)), .ref (am 10), .ref (am 11), .ref (am 12), .int (nI (j 5))])), (am 4, .inl (G.1, 2, .inl (nF (g 4)))), (am 5, .inl (G.1, 12, .inl (nF (g 5)))), (am 6, .inl (G.1, 12, .inl (nF (g 6)))), (am 7, .inl (G.1, 12, .inl (nF (g 7)))), (am 8, .inl (G.1, 12, .inl (nF (g 8)))), (am 10, .inl (G.1, 240, .inl (nF (g 10))))] (fun _ => [(am 0, .inr (4, [.long (tr), .ref (am 1), .int (nI (j 0)), .ref (am 2), .ref (am 3), .ref (am 4), .ref (am 5), .ref (am 6), .ref (am 7), .ref (am 8), .ref (am 9), .int (nI (j 1)), .int (nI (j 2)), .int (nI (j 3)), .int (nI (j 4)), .int (fl), .int (bI (hh)), .ref (am 10), .ref (am 11), .ref (am 12), .int (nI (j 5))])), (am 4, .inl (G.1, 2, .inl (nF (g 4)))), (am 5, .inl (G.1, 12, .inl (nF (g 5)))), (am 6, .inl (G.1, 12, .inl (nF (g 6)))), (am 7, .inl (G.1, 12, .inl (nF (g 7)))), (am 8, .inl (G.1, 12, .inl (nF (g 8)))), (am 10, .inl (G.1, 240, .inl (nF (g 10))))]) H0)) (by decide) (Nat.le_of_ble_eq_true rfl) ?_
  intro p e s m args below meth c hx hb hr hts hown hlocks hml hK A hAe hA hH0 ls hl H locs hP hD hS
  have hl : lv_has ls 10 [(0, .ref (am 0)), (1, .long (seI lo hi)), (3, .int (nI mm))] := hl
  have hR0 := hR
  obtain ⟨m4, m5, ml, m6, i5, il, ih9⟩ := hR
  refine lv_aload_n hx hb dX5_isEnoughByThree_0 rfl (lv_at hl 0 rfl) ?_
  refine lv_lload_n hx hb dX5_isEnoughByThree_1 rfl (lv_at hl 1 rfl) ?_
  refine lv_iload_n hx hb dX5_isEnoughByThree_2 rfl (lv_at hl 2 rfl) ?_
  refine wr_i (wrV_run (As := [.long (seI lo hi), .int (nI mm)]) (rest := []) hx hb hml hown hts Tg_M (c_X5_isEnoughByTwo l D G _ am n f k g j tx fl hh kp tr lk Bq lo hi mm hR0 (by omega) (by omega) (by omega) (by omega)) lk_RX5_148 ⟨rfl, rfl, Nat.le_of_ble_eq_true rfl, Nat.le_of_ble_eq_true rfl⟩ hP hD hK [0, 1, 2, 3, 4, 5, 6] rfl rfl 0 4 rfl rfl rfl rfl hl rfl (Nat.le_of_ble_eq_true rfl) dX5_isEnoughByThree_3 ⟨Nat.le_of_ble_eq_true rfl, Nat.le_of_ble_eq_true rfl⟩) hP hD [0, 1, 2, 3, 4, 5, 6] rfl (fun _ => rfl) hS hA (fun r_ u_ H locs hpp hP hD hS => ?_)
  obtain rfl := hpp
  have hP : va_P D cls5 [(am 0, .inr (4, [.long (tr), .ref (am 1), .int (nI (j 0)), .ref (am 2), .ref (am 3), .ref (am 4), .ref (am 5), .ref (am 6), .ref (am 7), .ref (am 8), .ref (am 9), .int (nI (j 1)), .int (nI (j 2)), .int (nI (j 3)), .int (nI (j 4)), .int (fl), .int (bI (hh)), .ref (am 10), .ref (am 11), .ref (am 12), .int (nI (j 5))])), (am 4, .inl (G.1, 2, .inl (nF (g 4)))), (am 5, .inl (G.1, 12, .inl (nF (g 5)))), (am 6, .inl (G.1, 12, .inl (nF (g 6)))), (am 7, .inl (G.1, 12, .inl (nF (g 7)))), (am 8, .inl (G.1, 12, .inl (nF (g 8)))), (am 10, .inl (G.1, 240, .inl (nF (g 10))))] H := hP
  have hD : va_D A [(am 0, .inr (4, [.long (tr), .ref (am 1), .int (nI (j 0)), .ref (am 2), .ref (am 3), .ref (am 4), .ref (am 5), .ref (am 6), .ref (am 7), .ref (am 8), .ref (am 9), .int (nI (j 1)), .int (nI (j 2)), .int (nI (j 3)), .int (nI (j 4)), .int (fl), .int (bI (hh)), .ref (am 10), .ref (am 11), .ref (am 12), .int (nI (j 5))])), (am 4, .inl (G.1, 2, .inl (nF (g 4)))), (am 5, .inl (G.1, 12, .inl (nF (g 5)))), (am 6, .inl (G.1, 12, .inl (nF (g 6)))), (am 7, .inl (G.1, 12, .inl (nF (g 7)))), (am 8, .inl (G.1, 12, .inl (nF (g 8)))), (am 10, .inl (G.1, 240, .inl (nF (g 10))))] := hD
  refine lv_istore (lv' := [(4, .int (bI (enS (n 5) (cS f k) mm 2 lk lo hi))), (0, .ref (am 0)), (1, .long (seI lo hi)), (3, .int (nI mm))]) hx hb dX5_isEnoughByThree_6 hl (by decide) rfl (fun ls hl => ?_)
  refine lv_iconst (v := nI (0)) hx hb dX5_isEnoughByThree_8 (by decide) ?_
  refine lv_istore (lv' := [(5, .int (nI 0)), (4, .int (bI (enS (n 5) (cS f k) mm 2 lk lo hi))), (0, .ref (am 0)), (1, .long (seI lo hi)), (3, .int (nI mm))]) hx hb dX5_isEnoughByThree_9 hl (by decide) rfl (fun ls hl => ?_)
  have loop_1 : ∀ (fuel : Nat) (isv : Bool) (t : Nat), (t ≤ n 5) → (isv = true → enS (n 5) (cS f k) mm 3 lk lo hi = true) → (isv = false → ¬ hi - lo + 1 ≤ mm ∧ ∀ u, u < t → spA (cS f k u (lk u)) hi (fun a e => enS (n 5) (cS f k) mm 2 (va_up lk u (lk u + 1)) a e) 61 lo = false) → (n 5 - t) < fuel → ∀ (H : Heap) (locs : List Loc), va_P D cls5 [(am 0, .inr (4, [.long (tr), .ref (am 1), .int (nI (j 0)), .ref (am 2), .ref (am 3), .ref (am 4), .ref (am 5), .ref (am 6), .ref (am 7), .ref (am 8), .ref (am 9), .int (nI (j 1)), .int (nI (j 2)), .int (nI (j 3)), .int (nI (j 4)), .int (fl), .int (bI (hh)), .ref (am 10), .ref (am 11), .ref (am 12), .int (nI (j 5))])), (am 4, .inl (G.1, 2, .inl (nF (g 4)))), (am 5, .inl (G.1, 12, .inl (nF (g 5)))), (am 6, .inl (G.1, 12, .inl (nF (g 6)))), (am 7, .inl (G.1, 12, .inl (nF (g 7)))), (am 8, .inl (G.1, 12, .inl (nF (g 8)))), (am 10, .inl (G.1, 240, .inl (nF (g 10))))] H → va_D A [(am 0, .inr (4, [.long (tr), .ref (am 1), .int (nI (j 0)), .ref (am 2), .ref (am 3), .ref (am 4), .ref (am 5), .ref (am 6), .ref (am 7), .ref (am 8), .ref (am 9), .int (nI (j 1)), .int (nI (j 2)), .int (nI (j 3)), .int (nI (j 4)), .int (fl), .int (bI (hh)), .ref (am 10), .ref (am 11), .ref (am 12), .int (nI (j 5))])), (am 4, .inl (G.1, 2, .inl (nF (g 4)))), (am 5, .inl (G.1, 12, .inl (nF (g 5)))), (am 6, .inl (G.1, 12, .inl (nF (g 6)))), (am 7, .inl (G.1, 12, .inl (nF (g 7)))), (am 8, .inl (G.1, 12, .inl (nF (g 8)))), (am 10, .inl (G.1, 240, .inl (nF (g 10))))] → va_S A s.heap H locs → ∀ (ls : Array Slot), lv_has ls 10 [(0, .ref (am 0)), (1, .long (seI lo hi)), (3, .int (nI mm)), (4, .int (bI (isv))), (5, .int (nI t))] → W p l e (rmD 7) s m args below meth c H locs 0 0 (MQ below (wQi (S := Unit) D (fun r _ => r = bI (enS (n 5) (cS f k) mm 3 lk lo hi)) [(am 0, .inr (4, [.long (tr), .ref (am 1), .int (nI (j 0)), .ref (am 2), .ref (am 3), .ref (am 4), .ref (am 5), .ref (am 6), .ref (am 7), .ref (am 8), .ref (am 9), .int (nI (j 1)), .int (nI (j 2)), .int (nI (j 3)), .int (nI (j 4)), .int (fl), .int (bI (hh)), .ref (am 10), .ref (am 11), .ref (am 12), .int (nI (j 5))])), (am 4, .inl (G.1, 2, .inl (nF (g 4)))), (am 5, .inl (G.1, 12, .inl (nF (g 5)))), (am 6, .inl (G.1, 12, .inl (nF (g 6)))), (am 7, .inl (G.1, 12, .inl (nF (g 7)))), (am 8, .inl (G.1, 12, .inl (nF (g 8)))), (am 10, .inl (G.1, 240, .inl (nF (g 10))))] (fun _ => [(am 0, .inr (4, [.long (tr), .ref (am 1), .int (nI (j 0)), .ref (am 2), .ref (am 3), .ref (am 4), .ref (am 5), .ref (am 6), .ref (am 7), .ref (am 8), .ref (am 9), .int (nI (j 1)), .int (nI (j 2)), .int (nI (j 3)), .int (nI (j 4)), .int (fl), .int (bI (hh)), .ref (am 10), .ref (am 11), .ref (am 12), .int (nI (j 5))])), (am 4, .inl (G.1, 2, .inl (nF (g 4)))), (am 5, .inl (G.1, 12, .inl (nF (g 5)))), (am 6, .inl (G.1, 12, .inl (nF (g 6)))), (am 7, .inl (G.1, 12, .inl (nF (g 7)))), (am 8, .inl (G.1, 12, .inl (nF (g 8)))), (am 10, .inl (G.1, 240, .inl (nF (g 10))))]) s.heap) args s 0 0 A) (F0 m 11 ls []) := by
    intro fuel
    induction fuel with
    | zero => intro isv t h1 hu hv hfu; exact absurd hfu (Nat.not_lt_zero _)
    | succ fuel ih_2 =>
      intro isv t h1 hu hv hfu H locs hP hD hS ls hl
      refine lv_iload hx hb dX5_isEnoughByThree_11 (lv_at hl 4 rfl) ?_
      refine lv_aload_n hx hb dX5_isEnoughByThree_13 rfl (lv_at hl 0 rfl) ?_
      refine va_get (D := D) (ci := 4) (v := .ref (am 4)) (C := RX5) (T := TX5) (N := 21) hx hb hts (iX5) hown hK hP 0 rfl rfl 5 (by decide) (hts _ (List.mem_cons_of_mem _ wt_605)) (fun _ h9 => h9) rfl dX5_isEnoughByThree_14 ?_
      refine lv_iconst (v := nI (0)) hx hb dX5_isEnoughByThree_17 (by decide) ?_
      refine n_iald hx hb hK hP 1 (f := g 4) rfl (by omega) dX5_isEnoughByThree_18 ?_
      refine n_tope (show nI (g 4 0) = nI (n 5) from congrArg nI (m4)) ?_
      refine n_icmp_ge (tgt := 106) hx hb dX5_isEnoughByThree_19 (by decide) (by omega) (by omega) (fun c_19 => ?_) (fun c_19 => ?_)
      · refine lv_iload hx hb dX5_isEnoughByThree_106 (lv_at hl 3 rfl) ?_
        exact wr_zret (()) hx hb hr hlocks hAe hS dX5_isEnoughByThree_108 (narrow_bI _) (hP) (congrArg bI (by rcases Bool.eq_false_or_eq_true isv with z | z; exact z.trans (hu z).symm; rw [z]; exact (enS_step (hv z).1 (fun u h => (hv z).2 u (by omega))).symm))
      · refine lv_iload hx hb dX5_isEnoughByThree_22 (lv_at hl 3 rfl) ?_
        refine b_if_ne (tgt := 106) hx hb dX5_isEnoughByThree_24 (by decide) (fun c_24 => ?_) (fun c_24 => ?_)
        · refine lv_iload hx hb dX5_isEnoughByThree_106 (lv_at hl 3 rfl) ?_
          exact wr_zret (()) hx hb hr hlocks hAe hS dX5_isEnoughByThree_108 (narrow_bI _) (hP) (congrArg bI (by rw [c_24]; exact (hu c_24).symm))
        · refine lv_lload_n hx hb dX5_isEnoughByThree_27 rfl (lv_at hl 1 rfl) ?_
          refine lv_lstore (lv' := [(6, .long (seI lo hi)), (0, .ref (am 0)), (1, .long (seI lo hi)), (3, .int (nI mm)), (4, .int (bI (isv))), (5, .int (nI t))]) hx hb dX5_isEnoughByThree_28 hl (by decide) rfl (fun ls hl => ?_)
          refine lv_iconst (v := nI (1)) hx hb dX5_isEnoughByThree_30 (by decide) ?_
          refine n_tope (show nI (1) = bI (true) from rfl) ?_
          refine lv_istore (lv' := [(4, .int (bI (true))), (6, .long (seI lo hi)), (0, .ref (am 0)), (1, .long (seI lo hi)), (3, .int (nI mm)), (5, .int (nI t))]) hx hb dX5_isEnoughByThree_31 hl (by decide) rfl (fun ls hl => ?_)
          have loop_3 : ∀ (fuel : Nat) (fu : Nat) (fr : Nat) (iw : Bool), (hi + 1 ≤ fu + fr) → (fr ≤ hi + 1) → (spA (cS f k t (lk t)) hi (fun a e => enS (n 5) (cS f k) mm 2 (va_up lk t (lk t + 1)) a e) 61 lo = (iw && spA (cS f k t (lk t)) hi (fun a e => enS (n 5) (cS f k) mm 2 (va_up lk t (lk t + 1)) a e) fu fr)) → (hi + 1 - fr) < fuel → ∀ (H : Heap) (locs : List Loc), va_P D cls5 [(am 0, .inr (4, [.long (tr), .ref (am 1), .int (nI (j 0)), .ref (am 2), .ref (am 3), .ref (am 4), .ref (am 5), .ref (am 6), .ref (am 7), .ref (am 8), .ref (am 9), .int (nI (j 1)), .int (nI (j 2)), .int (nI (j 3)), .int (nI (j 4)), .int (fl), .int (bI (hh)), .ref (am 10), .ref (am 11), .ref (am 12), .int (nI (j 5))])), (am 4, .inl (G.1, 2, .inl (nF (g 4)))), (am 5, .inl (G.1, 12, .inl (nF (g 5)))), (am 6, .inl (G.1, 12, .inl (nF (g 6)))), (am 7, .inl (G.1, 12, .inl (nF (g 7)))), (am 8, .inl (G.1, 12, .inl (nF (g 8)))), (am 10, .inl (G.1, 240, .inl (nF (g 10))))] H → va_D A [(am 0, .inr (4, [.long (tr), .ref (am 1), .int (nI (j 0)), .ref (am 2), .ref (am 3), .ref (am 4), .ref (am 5), .ref (am 6), .ref (am 7), .ref (am 8), .ref (am 9), .int (nI (j 1)), .int (nI (j 2)), .int (nI (j 3)), .int (nI (j 4)), .int (fl), .int (bI (hh)), .ref (am 10), .ref (am 11), .ref (am 12), .int (nI (j 5))])), (am 4, .inl (G.1, 2, .inl (nF (g 4)))), (am 5, .inl (G.1, 12, .inl (nF (g 5)))), (am 6, .inl (G.1, 12, .inl (nF (g 6)))), (am 7, .inl (G.1, 12, .inl (nF (g 7)))), (am 8, .inl (G.1, 12, .inl (nF (g 8)))), (am 10, .inl (G.1, 240, .inl (nF (g 10))))] → va_S A s.heap H locs → ∀ (ls : Array Slot), lv_has ls 10 [(0, .ref (am 0)), (1, .long (seI lo hi)), (3, .int (nI mm)), (4, .int (bI (iw))), (5, .int (nI t)), (6, .long (seI fr hi))] → W p l e (rmD 7) s m args below meth c H locs 0 0 (MQ below (wQi (S := Unit) D (fun r _ => r = bI (enS (n 5) (cS f k) mm 3 lk lo hi)) [(am 0, .inr (4, [.long (tr), .ref (am 1), .int (nI (j 0)), .ref (am 2), .ref (am 3), .ref (am 4), .ref (am 5), .ref (am 6), .ref (am 7), .ref (am 8), .ref (am 9), .int (nI (j 1)), .int (nI (j 2)), .int (nI (j 3)), .int (nI (j 4)), .int (fl), .int (bI (hh)), .ref (am 10), .ref (am 11), .ref (am 12), .int (nI (j 5))])), (am 4, .inl (G.1, 2, .inl (nF (g 4)))), (am 5, .inl (G.1, 12, .inl (nF (g 5)))), (am 6, .inl (G.1, 12, .inl (nF (g 6)))), (am 7, .inl (G.1, 12, .inl (nF (g 7)))), (am 8, .inl (G.1, 12, .inl (nF (g 8)))), (am 10, .inl (G.1, 240, .inl (nF (g 10))))] (fun _ => [(am 0, .inr (4, [.long (tr), .ref (am 1), .int (nI (j 0)), .ref (am 2), .ref (am 3), .ref (am 4), .ref (am 5), .ref (am 6), .ref (am 7), .ref (am 8), .ref (am 9), .int (nI (j 1)), .int (nI (j 2)), .int (nI (j 3)), .int (nI (j 4)), .int (fl), .int (bI (hh)), .ref (am 10), .ref (am 11), .ref (am 12), .int (nI (j 5))])), (am 4, .inl (G.1, 2, .inl (nF (g 4)))), (am 5, .inl (G.1, 12, .inl (nF (g 5)))), (am 6, .inl (G.1, 12, .inl (nF (g 6)))), (am 7, .inl (G.1, 12, .inl (nF (g 7)))), (am 8, .inl (G.1, 12, .inl (nF (g 8)))), (am 10, .inl (G.1, 240, .inl (nF (g 10))))]) s.heap) args s 0 0 A) (F0 m 33 ls []) := by
            intro fuel
            induction fuel with
            | zero => intro fu fr iw h2 h3 hs hfu; exact absurd hfu (Nat.not_lt_zero _)
            | succ fuel ih_4 =>
              intro fu fr iw h2 h3 hs hfu H locs hP hD hS ls hl
              refine lv_lload hx hb dX5_isEnoughByThree_33 (lv_at hl 5 rfl) ?_
              refine lv_lconst (v := 0) hx hb dX5_isEnoughByThree_35 rfl ?_
              refine W.lcmp hx hb dX5_isEnoughByThree_36 ?_
              refine lv_if_eq (tgt := 100) hx hb dX5_isEnoughByThree_37 (by decide) (fun c_37 => ?_) (fun c_37 => ?_)
              · have hfr : hi < fr := (seI_0 hhi).mp (cmpz.mp c_37)
                have hs0 : spA (cS f k t (lk t)) hi (fun a e => enS (n 5) (cS f k) mm 2 (va_up lk t (lk t + 1)) a e) 61 lo = iw := by rw [hs, spA_end hfr, Bool.and_true]
                refine lv_iinc (v := nI (t + 1)) (lv' := [(5, .int (nI (t + 1))), (0, .ref (am 0)), (1, .long (seI lo hi)), (3, .int (nI mm)), (4, .int (bI (iw))), (6, .long (seI fr hi))]) hx hb dX5_isEnoughByThree_100 hl (k := 4) rfl (nI_inc _ _) (by decide) rfl (fun ls hl => ?_)
                refine lv_goto (tgt := 11) hx hb dX5_isEnoughByThree_103 (by decide) ?_
                exact ih_2 (iw) (t + 1) (by omega) (fun z => by rw [enS, show anyB (n 5) _ = true from decide_eq_true ⟨t, by omega, hs0.trans z⟩, Bool.or_true]) (fun z => ⟨(hv c_24).1, lt_s (hv c_24).2 (hs0.trans z)⟩) (by omega) H locs hP hD hS _ (lv_sub hl [1, 2, 3, 4, 0] rfl)
              · have hfr : fr ≤ hi := Nat.not_lt.mp (fun z => c_37 (cmpz.mpr ((seI_0 hhi).mpr z)))
                refine lv_iload hx hb dX5_isEnoughByThree_40 (lv_at hl 3 rfl) ?_
                refine b_if_eq (tgt := 100) hx hb dX5_isEnoughByThree_42 (by decide) (fun c_42 => ?_) (fun c_42 => ?_)
                · have hs0 : spA (cS f k t (lk t)) hi (fun a e => enS (n 5) (cS f k) mm 2 (va_up lk t (lk t + 1)) a e) 61 lo = iw := by rw [hs, c_42, Bool.false_and]
                  refine lv_iinc (v := nI (t + 1)) (lv' := [(5, .int (nI (t + 1))), (0, .ref (am 0)), (1, .long (seI lo hi)), (3, .int (nI mm)), (4, .int (bI (iw))), (6, .long (seI fr hi))]) hx hb dX5_isEnoughByThree_100 hl (k := 4) rfl (nI_inc _ _) (by decide) rfl (fun ls hl => ?_)
                  refine lv_goto (tgt := 11) hx hb dX5_isEnoughByThree_103 (by decide) ?_
                  exact ih_2 (iw) (t + 1) (by omega) (fun z => by rw [enS, show anyB (n 5) _ = true from decide_eq_true ⟨t, by omega, hs0.trans z⟩, Bool.or_true]) (fun z => ⟨(hv c_24).1, lt_s (hv c_24).2 (hs0.trans z)⟩) (by omega) H locs hP hD hS _ (lv_sub hl [1, 2, 3, 4, 0] rfl)
                · refine lv_aload_n hx hb dX5_isEnoughByThree_45 rfl (lv_at hl 0 rfl) ?_
                  refine lv_lload hx hb dX5_isEnoughByThree_46 (lv_at hl 5 rfl) ?_
                  refine lv_iload hx hb dX5_isEnoughByThree_48 (lv_at hl 4 rfl) ?_
                  refine ro_l (roV_run (As := [.long (seI fr hi), .int (nI t)]) (rest := []) hx hb hml hown hts Tg_M (c_X5_part l D G _ am n f k g j tx fl hh kp tr lk Bq fr hi t hR0 (by omega) (by omega) (by omega) (by omega)) lk_RX5_134 ⟨rfl, rfl, Nat.le_of_ble_eq_true rfl, Nat.le_of_ble_eq_true rfl⟩ hP hK [0, 2, 3, 4, 5, 6] rfl 0 4 rfl rfl rfl rfl hl rfl (Nat.le_of_ble_eq_true rfl) dX5_isEnoughByThree_50 ⟨Nat.le_of_ble_eq_true rfl, Nat.le_of_ble_eq_true rfl⟩) hS hA (fun locs hS => ?_)
                  have e8 := eoS_in (fun w => drk (f 5 t) w (lk t) (k 5)) (drk (f 5 t) fr (lk t) (k 5)) (hi - fr) fr
                  refine lv_lstore (lv' := [(8, .long (seI fr (eoS (fun w => drk (f 5 t) w (lk t) (k 5)) (drk (f 5 t) fr (lk t) (k 5)) (hi - fr) fr))), (0, .ref (am 0)), (1, .long (seI lo hi)), (3, .int (nI mm)), (4, .int (bI (iw))), (5, .int (nI t)), (6, .long (seI fr hi))]) hx hb dX5_isEnoughByThree_53 hl (by decide) rfl (fun ls hl => ?_)
                  refine lv_lload hx hb dX5_isEnoughByThree_55 (lv_at hl 6 rfl) ?_
                  refine lv_lload hx hb dX5_isEnoughByThree_57 (lv_at hl 0 rfl) ?_
                  refine lv_ldc2 (v := -1) hx hb hown (hts _ (List.mem_cons_of_mem _ wt_792)) dX5_isEnoughByThree_59 ?_
                  refine lv_lxor hx hb dX5_isEnoughByThree_62 ?_
                  refine lv_land hx hb dX5_isEnoughByThree_63 ?_
                  refine n_topl (show ((seI fr hi) &&& ((seI fr (eoS (fun w => drk (f 5 t) w (lk t) (k 5)) (drk (f 5 t) fr (lk t) (k 5)) (hi - fr) fr)) ^^^ (-1))) = (seI (eoS (fun w => drk (f 5 t) w (lk t) (k 5)) (drk (f 5 t) fr (lk t) (k 5)) (hi - fr) fr + 1) hi) from seI_rest (by omega) (by omega) hhi) ?_
                  refine lv_lstore (lv' := [(6, .long (seI (eoS (fun w => drk (f 5 t) w (lk t) (k 5)) (drk (f 5 t) fr (lk t) (k 5)) (hi - fr) fr + 1) hi)), (8, .long (seI fr (eoS (fun w => drk (f 5 t) w (lk t) (k 5)) (drk (f 5 t) fr (lk t) (k 5)) (hi - fr) fr))), (0, .ref (am 0)), (1, .long (seI lo hi)), (3, .int (nI mm)), (4, .int (bI (iw))), (5, .int (nI t))]) hx hb dX5_isEnoughByThree_64 hl (by decide) rfl (fun ls hl => ?_)
                  refine lv_aload_n hx hb dX5_isEnoughByThree_66 rfl (lv_at hl 2 rfl) ?_
                  refine va_get (D := D) (ci := 4) (v := .ref (am 10)) (C := RX5) (T := TX5) (N := 21) hx hb hts (iX5) hown hK hP 0 rfl rfl 17 (by decide) (hts _ (List.mem_cons_of_mem _ wt_617)) (fun _ h9 => h9) rfl dX5_isEnoughByThree_67 ?_
                  refine lv_iload hx hb dX5_isEnoughByThree_70 (lv_at hl 6 rfl) ?_
                  refine lv_dup2_11 hx hb dX5_isEnoughByThree_72 rfl rfl ?_
                  refine n_iald hx hb hK hP 6 (f := g 10) rfl (by omega) dX5_isEnoughByThree_73 ?_
                  refine n_tope (show nI (g 10 t) = nI (lk t) from congrArg nI ((ml t (by omega)).1)) ?_
                  refine lv_iconst (v := nI (1)) hx hb dX5_isEnoughByThree_74 (by decide) ?_
                  refine n_iadd hx hb dX5_isEnoughByThree_75 ?_
                  refine n_iast hx hb hK hP hD hS 6 (f := g 10) rfl (by omega) dX5_isEnoughByThree_76 (fun H locs hP hD hS => ?_)
                  have hP : va_P D cls5 [(am 0, .inr (4, [.long (tr), .ref (am 1), .int (nI (j 0)), .ref (am 2), .ref (am 3), .ref (am 4), .ref (am 5), .ref (am 6), .ref (am 7), .ref (am 8), .ref (am 9), .int (nI (j 1)), .int (nI (j 2)), .int (nI (j 3)), .int (nI (j 4)), .int (fl), .int (bI (hh)), .ref (am 10), .ref (am 11), .ref (am 12), .int (nI (j 5))])), (am 4, .inl (G.1, 2, .inl (nF (g 4)))), (am 5, .inl (G.1, 12, .inl (nF (g 5)))), (am 6, .inl (G.1, 12, .inl (nF (g 6)))), (am 7, .inl (G.1, 12, .inl (nF (g 7)))), (am 8, .inl (G.1, 12, .inl (nF (g 8)))), (am 10, .inl (G.1, 240, .inl (nF (va_up (g 10) t ((lk t) + 1)))))] H := hP
                  have hD : va_D A [(am 0, .inr (4, [.long (tr), .ref (am 1), .int (nI (j 0)), .ref (am 2), .ref (am 3), .ref (am 4), .ref (am 5), .ref (am 6), .ref (am 7), .ref (am 8), .ref (am 9), .int (nI (j 1)), .int (nI (j 2)), .int (nI (j 3)), .int (nI (j 4)), .int (fl), .int (bI (hh)), .ref (am 10), .ref (am 11), .ref (am 12), .int (nI (j 5))])), (am 4, .inl (G.1, 2, .inl (nF (g 4)))), (am 5, .inl (G.1, 12, .inl (nF (g 5)))), (am 6, .inl (G.1, 12, .inl (nF (g 6)))), (am 7, .inl (G.1, 12, .inl (nF (g 7)))), (am 8, .inl (G.1, 12, .inl (nF (g 8)))), (am 10, .inl (G.1, 240, .inl (nF (va_up (g 10) t ((lk t) + 1)))))] := hD
                  have hP : va_P D cls5 [(am 0, .inr (4, [.long (tr), .ref (am 1), .int (nI (j 0)), .ref (am 2), .ref (am 3), .ref (am 4), .ref (am 5), .ref (am 6), .ref (am 7), .ref (am 8), .ref (am 9), .int (nI (j 1)), .int (nI (j 2)), .int (nI (j 3)), .int (nI (j 4)), .int (fl), .int (bI (hh)), .ref (am 10), .ref (am 11), .ref (am 12), .int (nI (j 5))])), (am 4, .inl (G.1, 2, .inl (nF (g 4)))), (am 5, .inl (G.1, 12, .inl (nF (g 5)))), (am 6, .inl (G.1, 12, .inl (nF (g 6)))), (am 7, .inl (G.1, 12, .inl (nF (g 7)))), (am 8, .inl (G.1, 12, .inl (nF (g 8)))), (am 10, .inl (G.1, 240, .inl (nF (va_up (g 10) t (lk t + 1)))))] H := hP
                  have hD : va_D A [(am 0, .inr (4, [.long (tr), .ref (am 1), .int (nI (j 0)), .ref (am 2), .ref (am 3), .ref (am 4), .ref (am 5), .ref (am 6), .ref (am 7), .ref (am 8), .ref (am 9), .int (nI (j 1)), .int (nI (j 2)), .int (nI (j 3)), .int (nI (j 4)), .int (fl), .int (bI (hh)), .ref (am 10), .ref (am 11), .ref (am 12), .int (nI (j 5))])), (am 4, .inl (G.1, 2, .inl (nF (g 4)))), (am 5, .inl (G.1, 12, .inl (nF (g 5)))), (am 6, .inl (G.1, 12, .inl (nF (g 6)))), (am 7, .inl (G.1, 12, .inl (nF (g 7)))), (am 8, .inl (G.1, 12, .inl (nF (g 8)))), (am 10, .inl (G.1, 240, .inl (nF (va_up (g 10) t (lk t + 1)))))] := hD
                  refine lv_aload_n hx hb dX5_isEnoughByThree_77 rfl (lv_at hl 2 rfl) ?_
                  refine lv_lload hx hb dX5_isEnoughByThree_78 (lv_at hl 1 rfl) ?_
                  refine lv_iload_n hx hb dX5_isEnoughByThree_80 rfl (lv_at hl 4 rfl) ?_
                  refine wr_i (wrV_run (As := [.long (seI fr (eoS (fun w => drk (f 5 t) w (lk t) (k 5)) (drk (f 5 t) fr (lk t) (k 5)) (hi - fr) fr)), .int (nI mm)]) (rest := []) hx hb hml hown hts Tg_M (c_X5_isEnoughByTwo l D G _ am n f k (va_up g 10 (va_up (g 10) t (lk t + 1))) j tx fl hh kp tr (va_up lk t (lk t + 1)) (Bq + 1) fr (eoS (fun w => drk (f 5 t) w (lk t) (k 5)) (drk (f 5 t) fr (lk t) (k 5)) (hi - fr) fr) mm (RK_up hR0 (by omega)) (by omega) (by omega) (by omega) (by omega)) lk_RX5_148 ⟨rfl, rfl, Nat.le_of_ble_eq_true rfl, Nat.le_of_ble_eq_true rfl⟩ hP hD hK [0, 1, 2, 3, 4, 5, 6] rfl rfl 0 4 rfl rfl rfl rfl hl rfl (Nat.le_of_ble_eq_true rfl) dX5_isEnoughByThree_81 ⟨Nat.le_of_ble_eq_true rfl, Nat.le_of_ble_eq_true rfl⟩) hP hD [0, 1, 2, 3, 4, 5, 6] rfl (fun _ => rfl) hS hA (fun r_ u_ H locs hpp hP hD hS => ?_)
                  obtain rfl := hpp
                  have hP : va_P D cls5 [(am 0, .inr (4, [.long (tr), .ref (am 1), .int (nI (j 0)), .ref (am 2), .ref (am 3), .ref (am 4), .ref (am 5), .ref (am 6), .ref (am 7), .ref (am 8), .ref (am 9), .int (nI (j 1)), .int (nI (j 2)), .int (nI (j 3)), .int (nI (j 4)), .int (fl), .int (bI (hh)), .ref (am 10), .ref (am 11), .ref (am 12), .int (nI (j 5))])), (am 4, .inl (G.1, 2, .inl (nF (g 4)))), (am 5, .inl (G.1, 12, .inl (nF (g 5)))), (am 6, .inl (G.1, 12, .inl (nF (g 6)))), (am 7, .inl (G.1, 12, .inl (nF (g 7)))), (am 8, .inl (G.1, 12, .inl (nF (g 8)))), (am 10, .inl (G.1, 240, .inl (nF (va_up (g 10) t (lk t + 1)))))] H := hP
                  have hD : va_D A [(am 0, .inr (4, [.long (tr), .ref (am 1), .int (nI (j 0)), .ref (am 2), .ref (am 3), .ref (am 4), .ref (am 5), .ref (am 6), .ref (am 7), .ref (am 8), .ref (am 9), .int (nI (j 1)), .int (nI (j 2)), .int (nI (j 3)), .int (nI (j 4)), .int (fl), .int (bI (hh)), .ref (am 10), .ref (am 11), .ref (am 12), .int (nI (j 5))])), (am 4, .inl (G.1, 2, .inl (nF (g 4)))), (am 5, .inl (G.1, 12, .inl (nF (g 5)))), (am 6, .inl (G.1, 12, .inl (nF (g 6)))), (am 7, .inl (G.1, 12, .inl (nF (g 7)))), (am 8, .inl (G.1, 12, .inl (nF (g 8)))), (am 10, .inl (G.1, 240, .inl (nF (va_up (g 10) t (lk t + 1)))))] := hD
                  refine lv_istore (lv' := [(4, .int (bI (enS (n 5) (cS f k) mm 2 (va_up lk t (lk t + 1)) fr (eoS (fun w => drk (f 5 t) w (lk t) (k 5)) (drk (f 5 t) fr (lk t) (k 5)) (hi - fr) fr)))), (6, .long (seI (eoS (fun w => drk (f 5 t) w (lk t) (k 5)) (drk (f 5 t) fr (lk t) (k 5)) (hi - fr) fr + 1) hi)), (8, .long (seI fr (eoS (fun w => drk (f 5 t) w (lk t) (k 5)) (drk (f 5 t) fr (lk t) (k 5)) (hi - fr) fr))), (0, .ref (am 0)), (1, .long (seI lo hi)), (3, .int (nI mm)), (5, .int (nI t))]) hx hb dX5_isEnoughByThree_84 hl (by decide) rfl (fun ls hl => ?_)
                  refine lv_aload_n hx hb dX5_isEnoughByThree_86 rfl (lv_at hl 3 rfl) ?_
                  refine va_get (D := D) (ci := 4) (v := .ref (am 10)) (C := RX5) (T := TX5) (N := 21) hx hb hts (iX5) hown hK hP 0 rfl rfl 17 (by decide) (hts _ (List.mem_cons_of_mem _ wt_617)) (fun _ h9 => h9) rfl dX5_isEnoughByThree_87 ?_
                  refine lv_iload hx hb dX5_isEnoughByThree_90 (lv_at hl 6 rfl) ?_
                  refine lv_dup2_11 hx hb dX5_isEnoughByThree_92 rfl rfl ?_
                  refine n_iald hx hb hK hP 6 (f := va_up (g 10) t (lk t + 1)) rfl (by omega) dX5_isEnoughByThree_93 ?_
                  refine n_tope (show nI ((va_up (g 10) t (lk t + 1)) t) = nI (lk t + 1) from congrArg nI (by simp [va_up])) ?_
                  refine lv_iconst (v := nI (1)) hx hb dX5_isEnoughByThree_94 (by decide) ?_
                  refine n_isub hx hb dX5_isEnoughByThree_95 (by omega) ?_
                  refine n_iast hx hb hK hP hD hS 6 (f := va_up (g 10) t (lk t + 1)) rfl (by omega) dX5_isEnoughByThree_96 (fun H locs hP hD hS => ?_)
                  have hP : va_P D cls5 [(am 0, .inr (4, [.long (tr), .ref (am 1), .int (nI (j 0)), .ref (am 2), .ref (am 3), .ref (am 4), .ref (am 5), .ref (am 6), .ref (am 7), .ref (am 8), .ref (am 9), .int (nI (j 1)), .int (nI (j 2)), .int (nI (j 3)), .int (nI (j 4)), .int (fl), .int (bI (hh)), .ref (am 10), .ref (am 11), .ref (am 12), .int (nI (j 5))])), (am 4, .inl (G.1, 2, .inl (nF (g 4)))), (am 5, .inl (G.1, 12, .inl (nF (g 5)))), (am 6, .inl (G.1, 12, .inl (nF (g 6)))), (am 7, .inl (G.1, 12, .inl (nF (g 7)))), (am 8, .inl (G.1, 12, .inl (nF (g 8)))), (am 10, .inl (G.1, 240, .inl (nF (va_up (va_up (g 10) t (lk t + 1)) t ((lk t + 1) - 1)))))] H := hP
                  have hD : va_D A [(am 0, .inr (4, [.long (tr), .ref (am 1), .int (nI (j 0)), .ref (am 2), .ref (am 3), .ref (am 4), .ref (am 5), .ref (am 6), .ref (am 7), .ref (am 8), .ref (am 9), .int (nI (j 1)), .int (nI (j 2)), .int (nI (j 3)), .int (nI (j 4)), .int (fl), .int (bI (hh)), .ref (am 10), .ref (am 11), .ref (am 12), .int (nI (j 5))])), (am 4, .inl (G.1, 2, .inl (nF (g 4)))), (am 5, .inl (G.1, 12, .inl (nF (g 5)))), (am 6, .inl (G.1, 12, .inl (nF (g 6)))), (am 7, .inl (G.1, 12, .inl (nF (g 7)))), (am 8, .inl (G.1, 12, .inl (nF (g 8)))), (am 10, .inl (G.1, 240, .inl (nF (va_up (va_up (g 10) t (lk t + 1)) t ((lk t + 1) - 1)))))] := hD
                  rw [up_back (ml t (by omega)).1] at hP hD
                  have hP : va_P D cls5 [(am 0, .inr (4, [.long (tr), .ref (am 1), .int (nI (j 0)), .ref (am 2), .ref (am 3), .ref (am 4), .ref (am 5), .ref (am 6), .ref (am 7), .ref (am 8), .ref (am 9), .int (nI (j 1)), .int (nI (j 2)), .int (nI (j 3)), .int (nI (j 4)), .int (fl), .int (bI (hh)), .ref (am 10), .ref (am 11), .ref (am 12), .int (nI (j 5))])), (am 4, .inl (G.1, 2, .inl (nF (g 4)))), (am 5, .inl (G.1, 12, .inl (nF (g 5)))), (am 6, .inl (G.1, 12, .inl (nF (g 6)))), (am 7, .inl (G.1, 12, .inl (nF (g 7)))), (am 8, .inl (G.1, 12, .inl (nF (g 8)))), (am 10, .inl (G.1, 240, .inl (nF (g 10))))] H := hP
                  have hD : va_D A [(am 0, .inr (4, [.long (tr), .ref (am 1), .int (nI (j 0)), .ref (am 2), .ref (am 3), .ref (am 4), .ref (am 5), .ref (am 6), .ref (am 7), .ref (am 8), .ref (am 9), .int (nI (j 1)), .int (nI (j 2)), .int (nI (j 3)), .int (nI (j 4)), .int (fl), .int (bI (hh)), .ref (am 10), .ref (am 11), .ref (am 12), .int (nI (j 5))])), (am 4, .inl (G.1, 2, .inl (nF (g 4)))), (am 5, .inl (G.1, 12, .inl (nF (g 5)))), (am 6, .inl (G.1, 12, .inl (nF (g 6)))), (am 7, .inl (G.1, 12, .inl (nF (g 7)))), (am 8, .inl (G.1, 12, .inl (nF (g 8)))), (am 10, .inl (G.1, 240, .inl (nF (g 10))))] := hD
                  refine lv_goto (tgt := 33) hx hb dX5_isEnoughByThree_97 (by decide) ?_
                  exact ih_4 (fu - 1) (eoS (fun w => drk (f 5 t) w (lk t) (k 5)) (drk (f 5 t) fr (lk t) (k 5)) (hi - fr) fr + 1) (enS (n 5) (cS f k) mm 2 (va_up lk t (lk t + 1)) fr (eoS (fun w => drk (f 5 t) w (lk t) (k 5)) (drk (f 5 t) fr (lk t) (k 5)) (hi - fr) fr)) (by omega) (by omega) (by rw [hs, c_42, Bool.true_and, show fu = (fu - 1) + 1 by omega, spA, if_pos hfr]; rfl) (by omega) H locs hP hD hS _ (lv_sub hl [3, 4, 5, 0, 6, 1] rfl)
          exact loop_3 (hi + 1 - lo + 1) (61) (lo) (true) (by omega) (by omega) (rfl) (Nat.lt_succ_self _) H locs hP hD hS _ (lv_sub hl [2, 3, 4, 0, 5, 1] rfl)
  exact loop_1 (n 5 - 0 + 1) (enS (n 5) (cS f k) mm 2 lk lo hi) (0) (by omega) (enS_mono _ _ _ 2 _ _ _) (fun z => ⟨enS_size z, fun u hu => absurd hu (Nat.not_lt_zero u)⟩) (Nat.lt_succ_self _) H locs hP hD hS _ (lv_sub hl [2, 3, 4, 1, 0] rfl)
