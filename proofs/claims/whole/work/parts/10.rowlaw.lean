theorem lam_add0 (n : Nat) : n + 0 = n := rfl
def cpN (g f : Nat → Nat) (n : Nat) : Nat → Nat := fun i => if i < n then g i else f i
theorem cpN_0 (g f : Nat → Nat) : cpN g f 0 = f := by funext i; simp [cpN]
theorem cpN_s (g f : Nat → Nat) (n : Nat) : va_up (cpN g f n) n (g n) = cpN g f (n + 1) := by
  funext i
  by_cases h : i = n
  · subst h; simp [cpN, va_up]
  · simp only [cpN, va_up, h, if_false]
    by_cases h2 : i < n
    · rw [if_pos h2, if_pos (by omega)]
    · rw [if_neg h2, if_neg (by omega)]
theorem max0_nI {a b : Nat} (ha : a < 2 ^ 30) (hb : b < 2 ^ 30) : (if nI a - nI b < nI 0 then nI 0 else nI a - nI b) = nI (a - b) := by
  by_cases h : a < b
  · rw [if_pos (show nI a - nI b < nI 0 from pk_sneg hb h), Nat.sub_eq_zero_of_le (Nat.le_of_lt h)]
  · rw [pk_sub (by omega), if_neg (show ¬ nI (a - b) < nI 0 from nI_pos (by omega))]
def lP (law k : Nat) : Nat := match k with
  | 0 => law / 360 + 1
  | 1 => law / 36 % 10
  | 2 => law / 4 % 9 + 1
  | _ => law % 4
theorem lP0 {law : Nat} (h : law < 3240) : 1 ≤ lP law 0 ∧ lP law 0 ≤ 9 := by show 1 ≤ law / 360 + 1 ∧ law / 360 + 1 ≤ 9; omega
theorem lP1 (law : Nat) : lP law 1 ≤ 9 := by show law / 36 % 10 ≤ 9; omega
theorem lP2 (law : Nat) : 1 ≤ lP law 2 ∧ lP law 2 ≤ 9 := by show 1 ≤ law / 4 % 9 + 1 ∧ law / 4 % 9 + 1 ≤ 9; omega
theorem lP3 (law : Nat) : lP law 3 ≤ 3 := by show law % 4 ≤ 3; omega
/-- cups by a law: A, B, D, T -/
def dk (a b d t w n h : Nat) : Nat := (a * w - t * n + b + h) / d
def drk (law w n h : Nat) : Nat := dk (lP law 0) (lP law 1) (lP law 2) (lP law 3) w n h

set_option maxHeartbeats 4000000 in
set_option maxRecDepth 100000 in
theorem c_X3_size (l : Launch) (D : va_G) (G : ClassId × ClassId × ClassId) (H0 : Heap) (r b cap n : Nat) (f : Nat → Nat)  : Met l yX3_size (wM yX3_size cX3_size 1 (some .int)) (rmD 1) (rP D G [.ref (r)] [(r, .inr (2, [.ref (b), .int (nI n)])), (b, .inl (G.1, cap, .inl (nF (f))))] H0) (rQi (nI n) H0) 0 0 (rF H0) := by
  refine ro_start (Qc := fun H0 => (rQi (nI n) H0)) (by decide) (Nat.le_of_ble_eq_true rfl) ?_
  intro p e s m args below meth c hx hb hr hts hown hlocks hml hP hK hA hH0 ls hl locs hS
  have hl : lv_has ls 1 [(0, .ref (r))] := hl
  refine lv_aload_n hx hb dX3_size_0 rfl (lv_at hl 0 rfl) ?_
  refine va_get (D := D) (ci := 2) (v := .int (nI n)) (C := RX3) (T := TX3) (N := 2) hx hb hts (iX3) hown hK hP 0 rfl rfl 1 (by decide) (hts _ (List.mem_cons_of_mem _ wt_87)) (fun _ h9 => h9) rfl dX3_size_1 ?_
  exact ro_iret hx hb hr hlocks hS dX3_size_4 (rfl)

set_option maxHeartbeats 4000000 in
set_option maxRecDepth 100000 in
theorem c_X3_has (l : Launch) (D : va_G) (G : ClassId × ClassId × ClassId) (H0 : Heap) (r b cap n : Nat) (f : Nat → Nat) (i : Int32)  : Met l yX3_has (wM yX3_has cX3_has 2 (some .boolean)) (rmD 1) (rP D G [.ref (r), .int (i)] [(r, .inr (2, [.ref (b), .int (nI n)])), (b, .inl (G.1, cap, .inl (nF (f))))] H0) (rQi (bI (hasB i n)) H0) 0 0 (rF H0) := by
  refine ro_start (Qc := fun H0 => (rQi (bI (hasB i n)) H0)) (by decide) (Nat.le_of_ble_eq_true rfl) ?_
  intro p e s m args below meth c hx hb hr hts hown hlocks hml hP hK hA hH0 ls hl locs hS
  have hl : lv_has ls 2 [(0, .ref (r)), (1, .int (i))] := hl
  refine lv_iload_n hx hb dX3_has_0 rfl (lv_at hl 1 rfl) ?_
  refine lv_if_lt (tgt := 16) hx hb dX3_has_1 (by decide) (fun c_1 => ?_) (fun c_1 => ?_)
  · refine lv_iconst (v := nI (0)) hx hb dX3_has_16 (by decide) ?_
    exact ro_zret hx hb hr hlocks hS dX3_has_17 (rfl) (bI_of_f (decide_eq_false (fun q => absurd q.1 (by rw [Int32.le_iff_toInt_le]; have := Int32.lt_iff_toInt_lt.mp c_1; omega))))
  · refine lv_iload_n hx hb dX3_has_4 rfl (lv_at hl 1 rfl) ?_
    refine lv_aload_n hx hb dX3_has_5 rfl (lv_at hl 0 rfl) ?_
    refine va_get (D := D) (ci := 2) (v := .int (nI n)) (C := RX3) (T := TX3) (N := 2) hx hb hts (iX3) hown hK hP 0 rfl rfl 1 (by decide) (hts _ (List.mem_cons_of_mem _ wt_87)) (fun _ h9 => h9) rfl dX3_has_6 ?_
    refine lv_icmp_ge (tgt := 16) hx hb dX3_has_9 (by decide) (fun c_9 => ?_) (fun c_9 => ?_)
    · refine lv_iconst (v := nI (0)) hx hb dX3_has_16 (by decide) ?_
      exact ro_zret hx hb hr hlocks hS dX3_has_17 (rfl) (bI_of_f (decide_eq_false (fun q => absurd q.2 (by rw [Int32.lt_iff_toInt_lt]; have := Int32.le_iff_toInt_le.mp c_9; omega))))
    · refine lv_iconst (v := nI (1)) hx hb dX3_has_12 (by decide) ?_
      refine lv_goto (tgt := 17) hx hb dX3_has_13 (by decide) ?_
      exact ro_zret hx hb hr hlocks hS dX3_has_17 (rfl) (bI_of_t (decide_eq_true ⟨Int32.not_lt.mp c_1, Int32.not_le.mp c_9⟩))

set_option maxHeartbeats 4000000 in
set_option maxRecDepth 100000 in
theorem c_X3_at (l : Launch) (D : va_G) (G : ClassId × ClassId × ClassId) (H0 : Heap) (r b cap n : Nat) (f : Nat → Nat) (j : Nat) (hj : j < n) (hn : n ≤ cap) (hc : cap < 2 ^ 31) : Met l yX3_at (wM yX3_at cX3_at 2 (some .int)) (rmD 1) (rP D G [.ref (r), .int (nI j)] [(r, .inr (2, [.ref (b), .int (nI n)])), (b, .inl (G.1, cap, .inl (nF (f))))] H0) (rQi (nI (f j)) H0) 0 0 (rF H0) := by
  refine ro_start (Qc := fun H0 => (rQi (nI (f j)) H0)) (by decide) (Nat.le_of_ble_eq_true rfl) ?_
  intro p e s m args below meth c hx hb hr hts hown hlocks hml hP hK hA hH0 ls hl locs hS
  have hl : lv_has ls 2 [(0, .ref (r)), (1, .int (nI j))] := hl
  refine lv_iload_n hx hb dX3_at_0 rfl (lv_at hl 1 rfl) ?_
  refine n_if_lt (tgt := 30) hx hb dX3_at_1 (by decide) (by omega) (fun c_1 => ?_) (fun c_1 => ?_)
  · exact c_1.elim
  · refine lv_iload_n hx hb dX3_at_4 rfl (lv_at hl 1 rfl) ?_
    refine lv_aload_n hx hb dX3_at_5 rfl (lv_at hl 0 rfl) ?_
    refine va_get (D := D) (ci := 2) (v := .int (nI n)) (C := RX3) (T := TX3) (N := 2) hx hb hts (iX3) hown hK hP 0 rfl rfl 1 (by decide) (hts _ (List.mem_cons_of_mem _ wt_87)) (fun _ h9 => h9) rfl dX3_at_6 ?_
    refine n_icmp_ge (tgt := 30) hx hb dX3_at_9 (by decide) (by omega) (by omega) (fun c_9 => ?_) (fun c_9 => ?_)
    · exact absurd c_9 (by omega)
    · refine lv_iload_n hx hb dX3_at_12 rfl (lv_at hl 1 rfl) ?_
      refine lv_aload_n hx hb dX3_at_13 rfl (lv_at hl 0 rfl) ?_
      refine va_get (D := D) (ci := 2) (v := .ref (b)) (C := RX3) (T := TX3) (N := 2) hx hb hts (iX3) hown hK hP 0 rfl rfl 0 (by decide) (hts _ (List.mem_cons_of_mem _ wt_86)) (fun _ h9 => h9) rfl dX3_at_14 ?_
      refine va_alen (v := nI (cap)) hx hb hK hP 1 0 rfl rfl rfl dX3_at_17 ?_
      refine n_icmp_ge (tgt := 30) hx hb dX3_at_18 (by decide) (by omega) (by omega) (fun c_18 => ?_) (fun c_18 => ?_)
      · exact absurd c_18 (by omega)
      · refine lv_aload_n hx hb dX3_at_21 rfl (lv_at hl 0 rfl) ?_
        refine va_get (D := D) (ci := 2) (v := .ref (b)) (C := RX3) (T := TX3) (N := 2) hx hb hts (iX3) hown hK hP 0 rfl rfl 0 (by decide) (hts _ (List.mem_cons_of_mem _ wt_86)) (fun _ h9 => h9) rfl dX3_at_22 ?_
        refine lv_iload_n hx hb dX3_at_25 rfl (lv_at hl 1 rfl) ?_
        refine n_iald hx hb hK hP 1 (f := f) rfl (by omega) dX3_at_26 ?_
        refine lv_goto (tgt := 31) hx hb dX3_at_27 (by decide) ?_
        exact ro_iret hx hb hr hlocks hS dX3_at_31 (rfl)

set_option maxHeartbeats 4000000 in
set_option maxRecDepth 100000 in
theorem c_X3_put (l : Launch) (D : va_G) (G : ClassId × ClassId × ClassId) (H0 : Heap) (r b cap n : Nat) (f : Nat → Nat) (j x : Nat) (hj : j < n) (hn : n ≤ cap) (hc : cap < 2 ^ 31) : Met l yX3_put (wM yX3_put cX3_put 3 none) (rmD 1) (wP D G [.ref (r), .int (nI j), .int (nI x)] [(r, .inr (2, [.ref (b), .int (nI n)])), (b, .inl (G.1, cap, .inl (nF (f))))] H0) (wQv (S := Unit) D (fun _ => True) [(r, .inr (2, [.ref (b), .int (nI n)])), (b, .inl (G.1, cap, .inl (nF (f))))] (fun _ => [(r, .inr (2, [.ref (b), .int (nI n)])), (b, .inl (G.1, cap, .inl (nF (va_up f j x))))]) H0) 0 0 (va_A [(r, .inr (2, [.ref (b), .int (nI n)])), (b, .inl (G.1, cap, .inl (nF (f))))] H0.size) := by
  refine wr_start (Qc := fun H0 => (wQv (S := Unit) D (fun _ => True) [(r, .inr (2, [.ref (b), .int (nI n)])), (b, .inl (G.1, cap, .inl (nF (f))))] (fun _ => [(r, .inr (2, [.ref (b), .int (nI n)])), (b, .inl (G.1, cap, .inl (nF (va_up f j x))))]) H0)) (by decide) (Nat.le_of_ble_eq_true rfl) ?_
  intro p e s m args below meth c hx hb hr hts hown hlocks hml hK A hAe hA hH0 ls hl H locs hP hD hS
  have hl : lv_has ls 3 [(0, .ref (r)), (1, .int (nI j)), (2, .int (nI x))] := hl
  refine lv_iload_n hx hb dX3_put_0 rfl (lv_at hl 1 rfl) ?_
  refine n_if_lt (tgt := 28) hx hb dX3_put_1 (by decide) (by omega) (fun c_1 => ?_) (fun c_1 => ?_)
  · exact c_1.elim
  · refine lv_iload_n hx hb dX3_put_4 rfl (lv_at hl 1 rfl) ?_
    refine lv_aload_n hx hb dX3_put_5 rfl (lv_at hl 0 rfl) ?_
    refine va_get (D := D) (ci := 2) (v := .int (nI n)) (C := RX3) (T := TX3) (N := 2) hx hb hts (iX3) hown hK hP 0 rfl rfl 1 (by decide) (hts _ (List.mem_cons_of_mem _ wt_87)) (fun _ h9 => h9) rfl dX3_put_6 ?_
    refine n_icmp_ge (tgt := 28) hx hb dX3_put_9 (by decide) (by omega) (by omega) (fun c_9 => ?_) (fun c_9 => ?_)
    · exact absurd c_9 (by omega)
    · refine lv_iload_n hx hb dX3_put_12 rfl (lv_at hl 1 rfl) ?_
      refine lv_aload_n hx hb dX3_put_13 rfl (lv_at hl 0 rfl) ?_
      refine va_get (D := D) (ci := 2) (v := .ref (b)) (C := RX3) (T := TX3) (N := 2) hx hb hts (iX3) hown hK hP 0 rfl rfl 0 (by decide) (hts _ (List.mem_cons_of_mem _ wt_86)) (fun _ h9 => h9) rfl dX3_put_14 ?_
      refine va_alen (v := nI (cap)) hx hb hK hP 1 0 rfl rfl rfl dX3_put_17 ?_
      refine n_icmp_ge (tgt := 28) hx hb dX3_put_18 (by decide) (by omega) (by omega) (fun c_18 => ?_) (fun c_18 => ?_)
      · exact absurd c_18 (by omega)
      · refine lv_aload_n hx hb dX3_put_21 rfl (lv_at hl 0 rfl) ?_
        refine va_get (D := D) (ci := 2) (v := .ref (b)) (C := RX3) (T := TX3) (N := 2) hx hb hts (iX3) hown hK hP 0 rfl rfl 0 (by decide) (hts _ (List.mem_cons_of_mem _ wt_86)) (fun _ h9 => h9) rfl dX3_put_22 ?_
        refine lv_iload_n hx hb dX3_put_25 rfl (lv_at hl 1 rfl) ?_
        refine lv_iload_n hx hb dX3_put_26 rfl (lv_at hl 2 rfl) ?_
        refine n_iast hx hb hK hP hD hS 1 (f := f) rfl (by omega) dX3_put_27 (fun H locs hP hD hS => ?_)
        have hP : va_P D cls5 [(r, .inr (2, [.ref (b), .int (nI n)])), (b, .inl (G.1, cap, .inl (nF (va_up f j x))))] H := hP
        have hD : va_D A [(r, .inr (2, [.ref (b), .int (nI n)])), (b, .inl (G.1, cap, .inl (nF (va_up f j x))))] := hD
        exact wr_vret (()) hx hb hr hlocks hAe hS dX3_put_28 (hP) (trivial)

set_option maxHeartbeats 4000000 in
set_option maxRecDepth 100000 in
theorem c_X3_add (l : Launch) (D : va_G) (G : ClassId × ClassId × ClassId) (H0 : Heap) (r b cap n : Nat) (f : Nat → Nat) (x : Nat) (hn : n < cap) (hc : cap < 2 ^ 31) : Met l yX3_add (wM yX3_add cX3_add 2 none) (rmD 1) (wP D G [.ref (r), .int (nI x)] [(r, .inr (2, [.ref (b), .int (nI n)])), (b, .inl (G.1, cap, .inl (nF (f))))] H0) (wQv (S := Unit) D (fun _ => True) [(r, .inr (2, [.ref (b), .int (nI n)])), (b, .inl (G.1, cap, .inl (nF (f))))] (fun _ => [(r, .inr (2, [.ref (b), .int (nI (n + 1))])), (b, .inl (G.1, cap, .inl (nF (va_up f n x))))]) H0) 0 0 (va_A [(r, .inr (2, [.ref (b), .int (nI n)])), (b, .inl (G.1, cap, .inl (nF (f))))] H0.size) := by
  refine wr_start (Qc := fun H0 => (wQv (S := Unit) D (fun _ => True) [(r, .inr (2, [.ref (b), .int (nI n)])), (b, .inl (G.1, cap, .inl (nF (f))))] (fun _ => [(r, .inr (2, [.ref (b), .int (nI (n + 1))])), (b, .inl (G.1, cap, .inl (nF (va_up f n x))))]) H0)) (by decide) (Nat.le_of_ble_eq_true rfl) ?_
  intro p e s m args below meth c hx hb hr hts hown hlocks hml hK A hAe hA hH0 ls hl H locs hP hD hS
  have hl : lv_has ls 2 [(0, .ref (r)), (1, .int (nI x))] := hl
  refine lv_aload_n hx hb dX3_add_0 rfl (lv_at hl 0 rfl) ?_
  refine va_get (D := D) (ci := 2) (v := .int (nI n)) (C := RX3) (T := TX3) (N := 2) hx hb hts (iX3) hown hK hP 0 rfl rfl 1 (by decide) (hts _ (List.mem_cons_of_mem _ wt_87)) (fun _ h9 => h9) rfl dX3_add_1 ?_
  refine n_if_lt (tgt := 39) hx hb dX3_add_4 (by decide) (by omega) (fun c_4 => ?_) (fun c_4 => ?_)
  · exact c_4.elim
  · refine lv_aload_n hx hb dX3_add_7 rfl (lv_at hl 0 rfl) ?_
    refine va_get (D := D) (ci := 2) (v := .int (nI n)) (C := RX3) (T := TX3) (N := 2) hx hb hts (iX3) hown hK hP 0 rfl rfl 1 (by decide) (hts _ (List.mem_cons_of_mem _ wt_87)) (fun _ h9 => h9) rfl dX3_add_8 ?_
    refine lv_aload_n hx hb dX3_add_11 rfl (lv_at hl 0 rfl) ?_
    refine va_get (D := D) (ci := 2) (v := .ref (b)) (C := RX3) (T := TX3) (N := 2) hx hb hts (iX3) hown hK hP 0 rfl rfl 0 (by decide) (hts _ (List.mem_cons_of_mem _ wt_86)) (fun _ h9 => h9) rfl dX3_add_12 ?_
    refine va_alen (v := nI (cap)) hx hb hK hP 1 0 rfl rfl rfl dX3_add_15 ?_
    refine n_icmp_ge (tgt := 39) hx hb dX3_add_16 (by decide) (by omega) (by omega) (fun c_16 => ?_) (fun c_16 => ?_)
    · exact absurd c_16 (by omega)
    · refine lv_aload_n hx hb dX3_add_19 rfl (lv_at hl 0 rfl) ?_
      refine va_get (D := D) (ci := 2) (v := .ref (b)) (C := RX3) (T := TX3) (N := 2) hx hb hts (iX3) hown hK hP 0 rfl rfl 0 (by decide) (hts _ (List.mem_cons_of_mem _ wt_86)) (fun _ h9 => h9) rfl dX3_add_20 ?_
      refine lv_aload_n hx hb dX3_add_23 rfl (lv_at hl 0 rfl) ?_
      refine va_get (D := D) (ci := 2) (v := .int (nI n)) (C := RX3) (T := TX3) (N := 2) hx hb hts (iX3) hown hK hP 0 rfl rfl 1 (by decide) (hts _ (List.mem_cons_of_mem _ wt_87)) (fun _ h9 => h9) rfl dX3_add_24 ?_
      refine lv_iload_n hx hb dX3_add_27 rfl (lv_at hl 1 rfl) ?_
      refine n_iast hx hb hK hP hD hS 1 (f := f) rfl (by omega) dX3_add_28 (fun H locs hP hD hS => ?_)
      have hP : va_P D cls5 [(r, .inr (2, [.ref (b), .int (nI n)])), (b, .inl (G.1, cap, .inl (nF (va_up f n x))))] H := hP
      have hD : va_D A [(r, .inr (2, [.ref (b), .int (nI n)])), (b, .inl (G.1, cap, .inl (nF (va_up f n x))))] := hD
      refine lv_aload_n hx hb dX3_add_29 rfl (lv_at hl 0 rfl) ?_
      refine lv_dup hx hb dX3_add_30 rfl ?_
      refine va_get (D := D) (ci := 2) (v := .int (nI n)) (C := RX3) (T := TX3) (N := 2) hx hb hts (iX3) hown hK hP 0 rfl rfl 1 (by decide) (hts _ (List.mem_cons_of_mem _ wt_87)) (fun _ h9 => h9) rfl dX3_add_31 ?_
      refine lv_iconst (v := nI (1)) hx hb dX3_add_34 (by decide) ?_
      refine n_iadd hx hb dX3_add_35 ?_
      refine va_put (D := D) (ci := 2) (v := .int (nI (n + 1))) (ty := .int) (C := RX3) (T := TX3) (N := 2) hx hb hts (iX3) tyX3 tyX3_ok nmX3 hown hK hP hD hS 0 rfl rfl 1 (by decide) (hts _ (List.mem_cons_of_mem _ wt_87)) (fun _ h9 => h9) rfl (by decide +kernel) (rfl) (rfl) (Nat.le_of_ble_eq_true rfl) dX3_add_36 (fun H locs hP hD hS => ?_)
      have hP : va_P D cls5 [(r, .inr (2, [.ref (b), .int (nI (n + 1))])), (b, .inl (G.1, cap, .inl (nF (va_up f n x))))] H := hP
      have hD : va_D A [(r, .inr (2, [.ref (b), .int (nI (n + 1))])), (b, .inl (G.1, cap, .inl (nF (va_up f n x))))] := hD
      exact wr_vret (()) hx hb hr hlocks hAe hS dX3_add_39 (hP) (trivial)

set_option maxHeartbeats 4000000 in
set_option maxRecDepth 100000 in
theorem c_X3_cutTo (l : Launch) (D : va_G) (G : ClassId × ClassId × ClassId) (H0 : Heap) (r b cap n : Nat) (f : Nat → Nat) (k : Nat) (hk : k ≤ n) (hn : n < 2 ^ 31) : Met l yX3_cutTo (wM yX3_cutTo cX3_cutTo 2 none) (rmD 1) (wP D G [.ref (r), .int (nI k)] [(r, .inr (2, [.ref (b), .int (nI n)])), (b, .inl (G.1, cap, .inl (nF (f))))] H0) (wQv (S := Unit) D (fun _ => True) [(r, .inr (2, [.ref (b), .int (nI n)])), (b, .inl (G.1, cap, .inl (nF (f))))] (fun _ => [(r, .inr (2, [.ref (b), .int (nI k)])), (b, .inl (G.1, cap, .inl (nF (f))))]) H0) 0 0 (va_A [(r, .inr (2, [.ref (b), .int (nI n)])), (b, .inl (G.1, cap, .inl (nF (f))))] H0.size) := by
  refine wr_start (Qc := fun H0 => (wQv (S := Unit) D (fun _ => True) [(r, .inr (2, [.ref (b), .int (nI n)])), (b, .inl (G.1, cap, .inl (nF (f))))] (fun _ => [(r, .inr (2, [.ref (b), .int (nI k)])), (b, .inl (G.1, cap, .inl (nF (f))))]) H0)) (by decide) (Nat.le_of_ble_eq_true rfl) ?_
  intro p e s m args below meth c hx hb hr hts hown hlocks hml hK A hAe hA hH0 ls hl H locs hP hD hS
  have hl : lv_has ls 2 [(0, .ref (r)), (1, .int (nI k))] := hl
  refine lv_iload_n hx hb dX3_cutTo_0 rfl (lv_at hl 1 rfl) ?_
  refine n_if_lt (tgt := 17) hx hb dX3_cutTo_1 (by decide) (by omega) (fun c_1 => ?_) (fun c_1 => ?_)
  · exact c_1.elim
  · refine lv_iload_n hx hb dX3_cutTo_4 rfl (lv_at hl 1 rfl) ?_
    refine lv_aload_n hx hb dX3_cutTo_5 rfl (lv_at hl 0 rfl) ?_
    refine va_get (D := D) (ci := 2) (v := .int (nI n)) (C := RX3) (T := TX3) (N := 2) hx hb hts (iX3) hown hK hP 0 rfl rfl 1 (by decide) (hts _ (List.mem_cons_of_mem _ wt_87)) (fun _ h9 => h9) rfl dX3_cutTo_6 ?_
    refine n_icmp_ge (tgt := 17) hx hb dX3_cutTo_9 (by decide) (by omega) (by omega) (fun c_9 => ?_) (fun c_9 => ?_)
    · exact wr_vret (()) hx hb hr hlocks hAe hS dX3_cutTo_17 (by obtain rfl : k = n := (by omega); exact hP) (trivial)
    · refine lv_aload_n hx hb dX3_cutTo_12 rfl (lv_at hl 0 rfl) ?_
      refine lv_iload_n hx hb dX3_cutTo_13 rfl (lv_at hl 1 rfl) ?_
      refine va_put (D := D) (ci := 2) (v := .int (nI k)) (ty := .int) (C := RX3) (T := TX3) (N := 2) hx hb hts (iX3) tyX3 tyX3_ok nmX3 hown hK hP hD hS 0 rfl rfl 1 (by decide) (hts _ (List.mem_cons_of_mem _ wt_87)) (fun _ h9 => h9) rfl (by decide +kernel) (rfl) (rfl) (Nat.le_of_ble_eq_true rfl) dX3_cutTo_14 (fun H locs hP hD hS => ?_)
      have hP : va_P D cls5 [(r, .inr (2, [.ref (b), .int (nI k)])), (b, .inl (G.1, cap, .inl (nF (f))))] H := hP
      have hD : va_D A [(r, .inr (2, [.ref (b), .int (nI k)])), (b, .inl (G.1, cap, .inl (nF (f))))] := hD
      exact wr_vret (()) hx hb hr hlocks hAe hS dX3_cutTo_17 (hP) (trivial)

set_option maxHeartbeats 4000000 in
set_option maxRecDepth 100000 in
theorem c_X3_copyFrom (l : Launch) (D : va_G) (G : ClassId × ClassId × ClassId) (H0 : Heap) (r b cap n : Nat) (f : Nat → Nat) (r2 b2 cap2 n2 : Nat) (g : Nat → Nat) (hn : n ≤ cap) (hc : cap < 2 ^ 31) (hn2 : n2 ≤ cap) (hn3 : n2 ≤ cap2) (hc2 : cap2 < 2 ^ 31) : Met l yX3_copyFrom (wM yX3_copyFrom cX3_copyFrom 3 none) (rmD 2) (wP D G [.ref (r), .ref (r2)] [(r, .inr (2, [.ref (b), .int (nI n)])), (b, .inl (G.1, cap, .inl (nF (f)))), (r2, .inr (2, [.ref (b2), .int (nI n2)])), (b2, .inl (G.1, cap2, .inl (nF (g))))] H0) (wQv (S := Unit) D (fun _ => True) [(r, .inr (2, [.ref (b), .int (nI n)])), (b, .inl (G.1, cap, .inl (nF (f)))), (r2, .inr (2, [.ref (b2), .int (nI n2)])), (b2, .inl (G.1, cap2, .inl (nF (g))))] (fun _ => [(r, .inr (2, [.ref (b), .int (nI n2)])), (b, .inl (G.1, cap, .inl (nF (cpN g f n2)))), (r2, .inr (2, [.ref (b2), .int (nI n2)])), (b2, .inl (G.1, cap2, .inl (nF (g))))]) H0) 0 0 (va_A [(r, .inr (2, [.ref (b), .int (nI n)])), (b, .inl (G.1, cap, .inl (nF (f)))), (r2, .inr (2, [.ref (b2), .int (nI n2)])), (b2, .inl (G.1, cap2, .inl (nF (g))))] H0.size) := by
  refine wr_start (Qc := fun H0 => (wQv (S := Unit) D (fun _ => True) [(r, .inr (2, [.ref (b), .int (nI n)])), (b, .inl (G.1, cap, .inl (nF (f)))), (r2, .inr (2, [.ref (b2), .int (nI n2)])), (b2, .inl (G.1, cap2, .inl (nF (g))))] (fun _ => [(r, .inr (2, [.ref (b), .int (nI n2)])), (b, .inl (G.1, cap, .inl (nF (cpN g f n2)))), (r2, .inr (2, [.ref (b2), .int (nI n2)])), (b2, .inl (G.1, cap2, .inl (nF (g))))]) H0)) (by decide) (Nat.le_of_ble_eq_true rfl) ?_
  intro p e s m args below meth c hx hb hr hts hown hlocks hml hK A hAe hA hH0 ls hl H locs hP hD hS
  have hl : lv_has ls 3 [(0, .ref (r)), (1, .ref (r2))] := hl
  refine lv_aload_n hx hb dX3_copyFrom_0 rfl (lv_at hl 0 rfl) ?_
  refine lv_iconst (v := nI (0)) hx hb dX3_copyFrom_1 (by decide) ?_
  refine wr_v (wrV_run (As := [.int (nI 0)]) (rest := []) hx hb hml hown hts Tg_M (c_X3_cutTo l D G _ r b cap n f 0 (by omega) (by omega)) lk_RX3_23 ⟨rfl, rfl, Nat.le_of_ble_eq_true rfl, Nat.le_of_ble_eq_true rfl⟩ hP hD hK [0, 1] rfl rfl 0 2 rfl rfl rfl rfl hl rfl (Nat.le_of_ble_eq_true rfl) dX3_copyFrom_2 ⟨Nat.le_of_ble_eq_true rfl, Nat.le_of_ble_eq_true rfl⟩) hP hD [0, 1] rfl (fun _ => rfl) hS hA (fun _ H locs _ hP hD hS => ?_)
  have hP : va_P D cls5 [(r, .inr (2, [.ref (b), .int (nI 0)])), (b, .inl (G.1, cap, .inl (nF (f)))), (r2, .inr (2, [.ref (b2), .int (nI n2)])), (b2, .inl (G.1, cap2, .inl (nF (g))))] H := hP
  have hD : va_D A [(r, .inr (2, [.ref (b), .int (nI 0)])), (b, .inl (G.1, cap, .inl (nF (f)))), (r2, .inr (2, [.ref (b2), .int (nI n2)])), (b2, .inl (G.1, cap2, .inl (nF (g))))] := hD
  rw [show nF f = nF (cpN g f 0) from congrArg nF (cpN_0 g f).symm] at hP hD
  refine lv_aload_n hx hb dX3_copyFrom_5 rfl (lv_at hl 1 rfl) ?_
  refine lv_ifnonnull (tgt := 10) hx hb dX3_copyFrom_6 (by decide) ?_
  refine lv_iconst (v := nI (0)) hx hb dX3_copyFrom_10 (by decide) ?_
  refine lv_istore_n (lv' := [(2, .int (nI 0)), (0, .ref (r)), (1, .ref (r2))]) hx hb dX3_copyFrom_11 rfl hl (by decide) rfl (fun ls hl => ?_)
  have loop_1 : ∀ (fuel : Nat) (i : Nat), (i ≤ n2) → (n2 - i) < fuel → ∀ (H : Heap) (locs : List Loc), va_P D cls5 [(r, .inr (2, [.ref (b), .int (nI i)])), (b, .inl (G.1, cap, .inl (nF (cpN g f i)))), (r2, .inr (2, [.ref (b2), .int (nI n2)])), (b2, .inl (G.1, cap2, .inl (nF (g))))] H → va_D A [(r, .inr (2, [.ref (b), .int (nI i)])), (b, .inl (G.1, cap, .inl (nF (cpN g f i)))), (r2, .inr (2, [.ref (b2), .int (nI n2)])), (b2, .inl (G.1, cap2, .inl (nF (g))))] → va_S A s.heap H locs → ∀ (ls : Array Slot), lv_has ls 3 [(0, .ref (r)), (1, .ref (r2)), (2, .int (nI i))] → W p l e (rmD 2) s m args below meth c H locs 0 0 (MQ below (wQv (S := Unit) D (fun _ => True) [(r, .inr (2, [.ref (b), .int (nI n)])), (b, .inl (G.1, cap, .inl (nF (f)))), (r2, .inr (2, [.ref (b2), .int (nI n2)])), (b2, .inl (G.1, cap2, .inl (nF (g))))] (fun _ => [(r, .inr (2, [.ref (b), .int (nI n2)])), (b, .inl (G.1, cap, .inl (nF (cpN g f n2)))), (r2, .inr (2, [.ref (b2), .int (nI n2)])), (b2, .inl (G.1, cap2, .inl (nF (g))))]) s.heap) args s 0 0 A) (F0 m 12 ls []) := by
    intro fuel
    induction fuel with
    | zero => intro i hi hfu; exact absurd hfu (Nat.not_lt_zero _)
    | succ fuel ih_2 =>
      intro i hi hfu H locs hP hD hS ls hl
      refine lv_iload_n hx hb dX3_copyFrom_12 rfl (lv_at hl 2 rfl) ?_
      refine lv_aload_n hx hb dX3_copyFrom_13 rfl (lv_at hl 1 rfl) ?_
      refine ro_i (roV_run (As := []) (rest := [.int (nI i)]) hx hb hml hown hts Tg_M (c_X3_size l D G _ r2 b2 cap2 n2 g) lk_RX3_27 ⟨rfl, rfl, Nat.le_of_ble_eq_true rfl, Nat.le_of_ble_eq_true rfl⟩ hP hK [2, 3] rfl 2 2 rfl rfl rfl rfl hl rfl (Nat.le_of_ble_eq_true rfl) dX3_copyFrom_14 ⟨Nat.le_of_ble_eq_true rfl, Nat.le_of_ble_eq_true rfl⟩) hS hA (fun locs hS => ?_)
      refine n_icmp_ge (tgt := 35) hx hb dX3_copyFrom_17 (by decide) (by omega) (by omega) (fun c_17 => ?_) (fun c_17 => ?_)
      · exact wr_vret (()) hx hb hr hlocks hAe hS dX3_copyFrom_35 (by obtain rfl : i = n2 := (by omega); exact hP) (trivial)
      · refine lv_aload_n hx hb dX3_copyFrom_20 rfl (lv_at hl 0 rfl) ?_
        refine lv_aload_n hx hb dX3_copyFrom_21 rfl (lv_at hl 1 rfl) ?_
        refine lv_iload_n hx hb dX3_copyFrom_22 rfl (lv_at hl 2 rfl) ?_
        refine ro_i (roV_run (As := [.int (nI i)]) (rest := [.ref (r)]) hx hb hml hown hts Tg_M (c_X3_at l D G _ r2 b2 cap2 n2 g i (by omega) (by omega) (by omega)) lk_RX3_31 ⟨rfl, rfl, Nat.le_of_ble_eq_true rfl, Nat.le_of_ble_eq_true rfl⟩ hP hK [2, 3] rfl 2 2 rfl rfl rfl rfl hl rfl (Nat.le_of_ble_eq_true rfl) dX3_copyFrom_23 ⟨Nat.le_of_ble_eq_true rfl, Nat.le_of_ble_eq_true rfl⟩) hS hA (fun locs hS => ?_)
        refine wr_v (wrV_run (As := [.int (nI (g i))]) (rest := []) hx hb hml hown hts Tg_M (c_X3_add l D G _ r b cap i (cpN g f i) (g i) (by omega) (by omega)) lk_RX3_35 ⟨rfl, rfl, Nat.le_of_ble_eq_true rfl, Nat.le_of_ble_eq_true rfl⟩ hP hD hK [0, 1] rfl rfl 0 2 rfl rfl rfl rfl hl rfl (Nat.le_of_ble_eq_true rfl) dX3_copyFrom_26 ⟨Nat.le_of_ble_eq_true rfl, Nat.le_of_ble_eq_true rfl⟩) hP hD [0, 1] rfl (fun _ => rfl) hS hA (fun _ H locs _ hP hD hS => ?_)
        have hP : va_P D cls5 [(r, .inr (2, [.ref (b), .int (nI (i + 1))])), (b, .inl (G.1, cap, .inl (nF (va_up (cpN g f i) i (g i))))), (r2, .inr (2, [.ref (b2), .int (nI n2)])), (b2, .inl (G.1, cap2, .inl (nF (g))))] H := hP
        have hD : va_D A [(r, .inr (2, [.ref (b), .int (nI (i + 1))])), (b, .inl (G.1, cap, .inl (nF (va_up (cpN g f i) i (g i))))), (r2, .inr (2, [.ref (b2), .int (nI n2)])), (b2, .inl (G.1, cap2, .inl (nF (g))))] := hD
        rw [cpN_s g f i] at hP hD
        refine lv_iinc (v := nI (i + 1)) (lv' := [(2, .int (nI (i + 1))), (0, .ref (r)), (1, .ref (r2))]) hx hb dX3_copyFrom_29 hl (k := 2) rfl (nI_inc _ _) (by decide) rfl (fun ls hl => ?_)
        refine lv_goto (tgt := 12) hx hb dX3_copyFrom_32 (by decide) ?_
        exact ih_2 (i + 1) (by omega) (by omega) H locs hP hD hS _ (lv_sub hl [1, 2, 0] rfl)
  exact loop_1 (n2 - 0 + 1) (0) (Nat.zero_le _) (Nat.lt_succ_self _) H locs hP hD hS _ (lv_sub hl [1, 2, 0] rfl)

set_option maxHeartbeats 4000000 in
set_option maxRecDepth 100000 in
theorem c_X0_numbered (l : Launch) (D : va_G) (G : ClassId × ClassId × ClassId) (H0 : Heap) (a bb dd t : Nat) (ha : 1 ≤ a ∧ a ≤ 9) (hb9 : bb ≤ 9) (hd9 : 1 ≤ dd ∧ dd ≤ 9) (ht9 : t ≤ 3) : Met l yX0_numbered (wM yX0_numbered cX0_numbered 4 (some .int)) (rmD 1) (rP D G [.int (nI a), .int (nI bb), .int (nI dd), .int (nI t)] [] H0) (rQi (nI (((((a - 1) * 10 + bb) * 9 + dd) - 1) * 4 + t)) H0) 0 0 (rF H0) := by
  refine ro_start (Qc := fun H0 => (rQi (nI (((((a - 1) * 10 + bb) * 9 + dd) - 1) * 4 + t)) H0)) (by decide) (Nat.le_of_ble_eq_true rfl) ?_
  intro p e s m args below meth c hx hb hr hts hown hlocks hml hP hK hA hH0 ls hl locs hS
  have hl : lv_has ls 4 [(0, .int (nI a)), (1, .int (nI bb)), (2, .int (nI dd)), (3, .int (nI t))] := hl
  refine lv_iload_n hx hb dX0_numbered_0 rfl (lv_at hl 0 rfl) ?_
  refine lv_iconst (v := nI (1)) hx hb dX0_numbered_1 (by decide) ?_
  refine n_isub hx hb dX0_numbered_2 (by omega) ?_
  refine lv_bipush (v := nI (10)) hx hb dX0_numbered_3 (by decide) ?_
  refine n_imul hx hb dX0_numbered_5 ?_
  refine lv_iload_n hx hb dX0_numbered_6 rfl (lv_at hl 1 rfl) ?_
  refine n_iadd hx hb dX0_numbered_7 ?_
  refine lv_bipush (v := nI (9)) hx hb dX0_numbered_8 (by decide) ?_
  refine n_imul hx hb dX0_numbered_10 ?_
  refine lv_iload_n hx hb dX0_numbered_11 rfl (lv_at hl 2 rfl) ?_
  refine n_iadd hx hb dX0_numbered_12 ?_
  refine lv_iconst (v := nI (1)) hx hb dX0_numbered_13 (by decide) ?_
  refine n_isub hx hb dX0_numbered_14 (by omega) ?_
  refine lv_iconst (v := nI (4)) hx hb dX0_numbered_15 (by decide) ?_
  refine n_imul hx hb dX0_numbered_16 ?_
  refine lv_iload_n hx hb dX0_numbered_17 rfl (lv_at hl 3 rfl) ?_
  refine n_iadd hx hb dX0_numbered_18 ?_
  exact ro_iret hx hb hr hlocks hS dX0_numbered_19 (rfl)

set_option maxHeartbeats 4000000 in
set_option maxRecDepth 100000 in
theorem c_X0_part (l : Launch) (D : va_G) (G : ClassId × ClassId × ClassId) (H0 : Heap) (law k : Nat) (hlaw : law < 3240) (hk : k < 4) : Met l yX0_part (wM yX0_part cX0_part 2 (some .int)) (rmD 1) (rP D G [.int (nI law), .int (nI k)] [] H0) (rQi (nI (lP law k)) H0) 0 0 (rF H0) := by
  refine ro_start (Qc := fun H0 => (rQi (nI (lP law k)) H0)) (by decide) (Nat.le_of_ble_eq_true rfl) ?_
  intro p e s m args below meth c hx hb hr hts hown hlocks hml hP hK hA hH0 ls hl locs hS
  have hl : lv_has ls 2 [(0, .int (nI law)), (1, .int (nI k))] := hl
  refine lv_iload_n hx hb dX0_part_0 rfl (lv_at hl 1 rfl) ?_
  rcases (show k = 0 ∨ k = 1 ∨ k = 2 ∨ k = 3 by omega) with rfl | rfl | rfl | rfl
  · refine lv_tableIn (off := 31) (tgt := 32) hx hb dX0_part_1 (by decide) (by decide) (by decide) (by decide) ?_
    refine lv_iload_n hx hb dX0_part_32 rfl (lv_at hl 0 rfl) ?_
    refine lv_sipush (v := nI (360)) hx hb dX0_part_33 (by decide) ?_
    refine n_idiv hx hb dX0_part_36 (by omega) (by omega) (by omega) ?_
    refine lv_iconst (v := nI (1)) hx hb dX0_part_37 (by decide) ?_
    refine n_iadd hx hb dX0_part_38 ?_
    exact ro_iret hx hb hr hlocks hS dX0_part_39 (rfl)
  · refine lv_tableIn (off := 39) (tgt := 40) hx hb dX0_part_1 (by decide) (by decide) (by decide) (by decide) ?_
    refine lv_iload_n hx hb dX0_part_40 rfl (lv_at hl 0 rfl) ?_
    refine lv_bipush (v := nI (36)) hx hb dX0_part_41 (by decide) ?_
    refine n_idiv hx hb dX0_part_43 (by omega) (by omega) (by omega) ?_
    refine lv_bipush (v := nI (10)) hx hb dX0_part_44 (by decide) ?_
    refine n_irem hx hb dX0_part_46 (by omega) (by omega) (by omega) ?_
    exact ro_iret hx hb hr hlocks hS dX0_part_47 (rfl)
  · refine lv_tableIn (off := 47) (tgt := 48) hx hb dX0_part_1 (by decide) (by decide) (by decide) (by decide) ?_
    refine lv_iload_n hx hb dX0_part_48 rfl (lv_at hl 0 rfl) ?_
    refine lv_iconst (v := nI (4)) hx hb dX0_part_49 (by decide) ?_
    refine n_idiv hx hb dX0_part_50 (by omega) (by omega) (by omega) ?_
    refine lv_bipush (v := nI (9)) hx hb dX0_part_51 (by decide) ?_
    refine n_irem hx hb dX0_part_53 (by omega) (by omega) (by omega) ?_
    refine lv_iconst (v := nI (1)) hx hb dX0_part_54 (by decide) ?_
    refine n_iadd hx hb dX0_part_55 ?_
    exact ro_iret hx hb hr hlocks hS dX0_part_56 (rfl)
  · refine lv_tableIn (off := 56) (tgt := 57) hx hb dX0_part_1 (by decide) (by decide) (by decide) (by decide) ?_
    refine lv_iload_n hx hb dX0_part_57 rfl (lv_at hl 0 rfl) ?_
    refine lv_iconst (v := nI (4)) hx hb dX0_part_58 (by decide) ?_
    refine n_irem hx hb dX0_part_59 (by omega) (by omega) (by omega) ?_
    exact ro_iret hx hb hr hlocks hS dX0_part_60 (rfl)

set_option maxHeartbeats 4000000 in
set_option maxRecDepth 100000 in
theorem c_X0_least (l : Launch) (D : va_G) (G : ClassId × ClassId × ClassId) (H0 : Heap) (k : Nat) (hk : k < 4) : Met l yX0_least (wM yX0_least cX0_least 1 (some .int)) (rmD 1) (rP D G [.int (nI k)] [] H0) (rQi (nI (if k = 0 ∨ k = 2 then 1 else 0)) H0) 0 0 (rF H0) := by
  refine ro_start (Qc := fun H0 => (rQi (nI (if k = 0 ∨ k = 2 then 1 else 0)) H0)) (by decide) (Nat.le_of_ble_eq_true rfl) ?_
  intro p e s m args below meth c hx hb hr hts hown hlocks hml hP hK hA hH0 ls hl locs hS
  have hl : lv_has ls 1 [(0, .int (nI k))] := hl
  refine lv_iload_n hx hb dX0_least_0 rfl (lv_at hl 0 rfl) ?_
  refine n_if_eq (tgt := 9) hx hb dX0_least_1 (by decide) (by omega) (fun c_1 => ?_) (fun c_1 => ?_)
  · refine lv_iconst (v := nI (1)) hx hb dX0_least_9 (by decide) ?_
    refine lv_goto (tgt := 14) hx hb dX0_least_10 (by decide) ?_
    exact ro_iret hx hb hr hlocks hS dX0_least_14 (by rw [if_pos (by omega)])
  · refine lv_iload_n hx hb dX0_least_4 rfl (lv_at hl 0 rfl) ?_
    refine lv_iconst (v := nI (2)) hx hb dX0_least_5 (by decide) ?_
    refine n_icmp_ne (tgt := 13) hx hb dX0_least_6 (by decide) (by omega) (by omega) (fun c_6 => ?_) (fun c_6 => ?_)
    · refine lv_iconst (v := nI (0)) hx hb dX0_least_13 (by decide) ?_
      exact ro_iret hx hb hr hlocks hS dX0_least_14 (by rw [if_neg (by omega)])
    · refine lv_iconst (v := nI (1)) hx hb dX0_least_9 (by decide) ?_
      refine lv_goto (tgt := 14) hx hb dX0_least_10 (by decide) ?_
      exact ro_iret hx hb hr hlocks hS dX0_least_14 (by rw [if_pos (by omega)])

set_option maxHeartbeats 4000000 in
set_option maxRecDepth 100000 in
theorem c_X0_most (l : Launch) (D : va_G) (G : ClassId × ClassId × ClassId) (H0 : Heap) (k : Nat) (hk : k < 4) : Met l yX0_most (wM yX0_most cX0_most 1 (some .int)) (rmD 1) (rP D G [.int (nI k)] [] H0) (rQi (nI (if k = 3 then 3 else 9)) H0) 0 0 (rF H0) := by
  refine ro_start (Qc := fun H0 => (rQi (nI (if k = 3 then 3 else 9)) H0)) (by decide) (Nat.le_of_ble_eq_true rfl) ?_
  intro p e s m args below meth c hx hb hr hts hown hlocks hml hP hK hA hH0 ls hl locs hS
  have hl : lv_has ls 1 [(0, .int (nI k))] := hl
  refine lv_iload_n hx hb dX0_most_0 rfl (lv_at hl 0 rfl) ?_
  refine lv_iconst (v := nI (3)) hx hb dX0_most_1 (by decide) ?_
  refine n_icmp_ne (tgt := 9) hx hb dX0_most_2 (by decide) (by omega) (by omega) (fun c_2 => ?_) (fun c_2 => ?_)
  · refine lv_bipush (v := nI (9)) hx hb dX0_most_9 (by decide) ?_
    exact ro_iret hx hb hr hlocks hS dX0_most_11 (by rw [if_neg (by omega)])
  · refine lv_iconst (v := nI (3)) hx hb dX0_most_5 (by decide) ?_
    refine lv_goto (tgt := 11) hx hb dX0_most_6 (by decide) ?_
    exact ro_iret hx hb hr hlocks hS dX0_most_11 (by rw [if_pos (by omega)])

set_option maxHeartbeats 4000000 in
set_option maxRecDepth 100000 in
theorem c_X0_drinks (l : Launch) (D : va_G) (G : ClassId × ClassId × ClassId) (H0 : Heap) (law w n h : Nat) (hlaw : law < 3240) (hw : w ≤ 60) (hn : n ≤ 4096) (hh : h ≤ 9) : Met l yX0_drinks (wM yX0_drinks cX0_drinks 6 (some .int)) (rmD 2) (rP D G [.int (nI law), .int (nI w), .int (nI n), .int (nI h)] [] H0) (rQi (nI (drk law w n h)) H0) 0 0 (rF H0) := by
  refine ro_start (Qc := fun H0 => (rQi (nI (drk law w n h)) H0)) (by decide) (Nat.le_of_ble_eq_true rfl) ?_
  intro p e s m args below meth c hx hb hr hts hown hlocks hml hP hK hA hH0 ls hl locs hS
  have hl : lv_has ls 6 [(0, .int (nI law)), (1, .int (nI w)), (2, .int (nI n)), (3, .int (nI h))] := hl
  have h0 := lP0 hlaw
  have h1 := lP1 law
  have h2 := lP2 law
  have h3 := lP3 law
  have hAw : lP law 0 * w ≤ 9 * 60 := Nat.mul_le_mul h0.2 hw
  have hTn : lP law 3 * n ≤ 3 * 4096 := Nat.mul_le_mul h3 hn
  refine lv_iload_n hx hb dX0_drinks_0 rfl (lv_at hl 0 rfl) ?_
  refine lv_iconst (v := nI (2)) hx hb dX0_drinks_1 (by decide) ?_
  refine ro_i (roS_run (As := [.int (nI law), .int (nI 2)]) (rest := []) hx hb hml hown hts Tg_M (c_X0_part l D G _ law 2 (hlaw) (by omega)) lk_RX0_9 ⟨rfl, rfl, Nat.le_of_ble_eq_true rfl, Nat.le_of_ble_eq_true rfl⟩ hP hK [] rfl rfl hl rfl (Nat.le_of_ble_eq_true rfl) dX0_drinks_2 ⟨Nat.le_of_ble_eq_true rfl, Nat.le_of_ble_eq_true rfl⟩) hS hA (fun locs hS => ?_)
  refine lv_istore (lv' := [(4, .int (nI (lP law 2))), (0, .int (nI law)), (1, .int (nI w)), (2, .int (nI n)), (3, .int (nI h))]) hx hb dX0_drinks_5 hl (by decide) rfl (fun ls hl => ?_)
  refine lv_iload hx hb dX0_drinks_7 (lv_at hl 0 rfl) ?_
  refine lv_iconst (v := nI (1)) hx hb dX0_drinks_9 (by decide) ?_
  refine n_icmp_ge (tgt := 15) hx hb dX0_drinks_10 (by decide) (by omega) (by omega) (fun c_10 => ?_) (fun c_10 => ?_)
  · refine lv_iload_n hx hb dX0_drinks_15 rfl (lv_at hl 1 rfl) ?_
    refine lv_iconst (v := nI (0)) hx hb dX0_drinks_16 (by decide) ?_
    refine ro_i (roS_run (As := [.int (nI law), .int (nI 0)]) (rest := []) hx hb hml hown hts Tg_M (c_X0_part l D G _ law 0 (hlaw) (by omega)) lk_RX0_9 ⟨rfl, rfl, Nat.le_of_ble_eq_true rfl, Nat.le_of_ble_eq_true rfl⟩ hP hK [] rfl rfl hl rfl (Nat.le_of_ble_eq_true rfl) dX0_drinks_17 ⟨Nat.le_of_ble_eq_true rfl, Nat.le_of_ble_eq_true rfl⟩) hS hA (fun locs hS => ?_)
    refine lv_iload_n hx hb dX0_drinks_20 rfl (lv_at hl 2 rfl) ?_
    refine n_imul hx hb dX0_drinks_21 ?_
    refine lv_iload_n hx hb dX0_drinks_22 rfl (lv_at hl 1 rfl) ?_
    refine lv_iconst (v := nI (3)) hx hb dX0_drinks_23 (by decide) ?_
    refine ro_i (roS_run (As := [.int (nI law), .int (nI 3)]) (rest := [.int (nI ((lP law 0) * w))]) hx hb hml hown hts Tg_M (c_X0_part l D G _ law 3 (hlaw) (by omega)) lk_RX0_9 ⟨rfl, rfl, Nat.le_of_ble_eq_true rfl, Nat.le_of_ble_eq_true rfl⟩ hP hK [] rfl rfl hl rfl (Nat.le_of_ble_eq_true rfl) dX0_drinks_24 ⟨Nat.le_of_ble_eq_true rfl, Nat.le_of_ble_eq_true rfl⟩) hS hA (fun locs hS => ?_)
    refine lv_iload_n hx hb dX0_drinks_27 rfl (lv_at hl 3 rfl) ?_
    refine n_imul hx hb dX0_drinks_28 ?_
    refine lv_isub hx hb dX0_drinks_29 ?_
    refine lv_iconst (v := nI (0)) hx hb dX0_drinks_30 (by decide) ?_
    refine va_mmax hx hb (hml.trans hl.1.symm) hown (hts _ (List.mem_cons_of_mem _ wt_386)) (hts _ (List.mem_cons_of_mem _ wt_84)) (hts _ (List.mem_cons_of_mem _ wt_55)) (hts _ (List.mem_cons_of_mem _ wt_85)) (Nat.le_of_ble_eq_true rfl) (Nat.le_of_ble_eq_true rfl) (Nat.le_of_ble_eq_true rfl) (Nat.le_of_ble_eq_true rfl) dX0_drinks_31 ?_
    refine n_tope (show (if (nI ((lP law 0) * w) - nI ((lP law 3) * n)) < nI (0) then nI (0) else (nI ((lP law 0) * w) - nI ((lP law 3) * n))) = nI (lP law 0 * w - lP law 3 * n) from max0_nI (by omega) (by omega)) ?_
    refine lv_istore (lv' := [(5, .int (nI (lP law 0 * w - lP law 3 * n))), (4, .int (nI (lP law 2))), (0, .int (nI law)), (1, .int (nI w)), (2, .int (nI n)), (3, .int (nI h))]) hx hb dX0_drinks_34 hl (by decide) rfl (fun ls hl => ?_)
    refine lv_iload hx hb dX0_drinks_36 (lv_at hl 0 rfl) ?_
    refine lv_iload_n hx hb dX0_drinks_38 rfl (lv_at hl 2 rfl) ?_
    refine lv_iconst (v := nI (1)) hx hb dX0_drinks_39 (by decide) ?_
    refine ro_i (roS_run (As := [.int (nI law), .int (nI 1)]) (rest := [.int (nI (lP law 0 * w - lP law 3 * n))]) hx hb hml hown hts Tg_M (c_X0_part l D G _ law 1 (hlaw) (by omega)) lk_RX0_9 ⟨rfl, rfl, Nat.le_of_ble_eq_true rfl, Nat.le_of_ble_eq_true rfl⟩ hP hK [] rfl rfl hl rfl (Nat.le_of_ble_eq_true rfl) dX0_drinks_40 ⟨Nat.le_of_ble_eq_true rfl, Nat.le_of_ble_eq_true rfl⟩) hS hA (fun locs hS => ?_)
    refine n_iadd hx hb dX0_drinks_43 ?_
    refine lv_iload_n hx hb dX0_drinks_44 rfl (lv_at hl 5 rfl) ?_
    refine n_iadd hx hb dX0_drinks_45 ?_
    refine lv_iload hx hb dX0_drinks_46 (lv_at hl 1 rfl) ?_
    refine n_idiv hx hb dX0_drinks_48 (by omega) (by omega) (by omega) ?_
    exact ro_iret hx hb hr hlocks hS dX0_drinks_49 (rfl)
  · exact absurd c_10 (by omega)
