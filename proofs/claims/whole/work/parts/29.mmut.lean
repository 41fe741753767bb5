set_option maxHeartbeats 4000000 in
set_option maxRecDepth 100000 in
theorem c_X5_know (l : Launch) (D : va_G) (G : ClassId × ClassId × ClassId) (H0 : Heap) (am n : Nat → Nat) (f : Nat → Nat → Nat) (k : Nat → Nat) (g : Nat → Nat → Nat) (j : Nat → Nat) (tx : Nat → Int32) (fl : Int32) (hh : Bool) (kp : Nat → Bool) (tr : Int64) (q : Nat) (t j9 cu sd : Nat) (hI : XI n f k q) (hM : RQ n f k g) (ht : t < n 5) (h12 : n 8 < 12) : Met l yX5_know (wM yX5_know cX5_know 6 none) (rmD 1) (wP D G [.ref (am 0), .int (nI t), .int (nI j9), .int (nI cu), .int (nI sd)] [(am 0, .inr (4, [.long (tr), .ref (am 1), .int (nI (j 0)), .ref (am 2), .ref (am 3), .ref (am 4), .ref (am 5), .ref (am 6), .ref (am 7), .ref (am 8), .ref (am 9), .int (nI (j 1)), .int (nI (j 2)), .int (nI (j 3)), .int (nI (j 4)), .int (fl), .int (bI (hh)), .ref (am 10), .ref (am 11), .ref (am 12), .int (nI (j 5))])), (am 10, .inl (G.1, 240, .inl (nF (g 10))))] H0) (wQv (S := Unit) D (fun _ => True) [(am 0, .inr (4, [.long (tr), .ref (am 1), .int (nI (j 0)), .ref (am 2), .ref (am 3), .ref (am 4), .ref (am 5), .ref (am 6), .ref (am 7), .ref (am 8), .ref (am 9), .int (nI (j 1)), .int (nI (j 2)), .int (nI (j 3)), .int (nI (j 4)), .int (fl), .int (bI (hh)), .ref (am 10), .ref (am 11), .ref (am 12), .int (nI (j 5))])), (am 10, .inl (G.1, 240, .inl (nF (g 10))))] (fun _ => [(am 0, .inr (4, [.long (tr), .ref (am 1), .int (nI (j 0)), .ref (am 2), .ref (am 3), .ref (am 4), .ref (am 5), .ref (am 6), .ref (am 7), .ref (am 8), .ref (am 9), .int (nI (j 1)), .int (nI (j 2)), .int (nI (j 3)), .int (nI (j 4)), .int (fl), .int (bI (hh)), .ref (am 10), .ref (am 11), .ref (am 12), .int (nI (j 5))])), (am 10, .inl (G.1, 240, .inl (nF (kn (g 10) (n 8) t (f 7 t) (k 5) j9 cu sd))))]) H0) 0 0 (va_A [(am 0, .inr (4, [.long (tr), .ref (am 1), .int (nI (j 0)), .ref (am 2), .ref (am 3), .ref (am 4), .ref (am 5), .ref (am 6), .ref (am 7), .ref (am 8), .ref (am 9), .int (nI (j 1)), .int (nI (j 2)), .int (nI (j 3)), .int (nI (j 4)), .int (fl), .int (bI (hh)), .ref (am 10), .ref (am 11), .ref (am 12), .int (nI (j 5))])), (am 10, .inl (G.1, 240, .inl (nF (g 10))))] H0.size) := by
  refine wr_start (Qc := fun H0 => (wQv (S := Unit) D (fun _ => True) [(am 0, .inr (4, [.long (tr), .ref (am 1), .int (nI (j 0)), .ref (am 2), .ref (am 3), .ref (am 4), .ref (am 5), .ref (am 6), .ref (am 7), .ref (am 8), .ref (am 9), .int (nI (j 1)), .int (nI (j 2)), .int (nI (j 3)), .int (nI (j 4)), .int (fl), .int (bI (hh)), .ref (am 10), .ref (am 11), .ref (am 12), .int (nI (j 5))])), (am 10, .inl (G.1, 240, .inl (nF (g 10))))] (fun _ => [(am 0, .inr (4, [.long (tr), .ref (am 1), .int (nI (j 0)), .ref (am 2), .ref (am 3), .ref (am 4), .ref (am 5), .ref (am 6), .ref (am 7), .ref (am 8), .ref (am 9), .int (nI (j 1)), .int (nI (j 2)), .int (nI (j 3)), .int (nI (j 4)), .int (fl), .int (bI (hh)), .ref (am 10), .ref (am 11), .ref (am 12), .int (nI (j 5))])), (am 10, .inl (G.1, 240, .inl (nF (kn (g 10) (n 8) t (f 7 t) (k 5) j9 cu sd))))]) H0)) (by decide) (Nat.le_of_ble_eq_true rfl) ?_
  intro p e s m args below meth c hx hb hr hts hown hlocks hml hK A hAe hA hH0 ls hl H locs hP hD hS
  have hl : lv_has ls 6 [(0, .ref (am 0)), (1, .int (nI t)), (2, .int (nI j9)), (3, .int (nI cu)), (4, .int (nI sd))] := hl
  have hI0 := hI
  have hM0 := hM
  obtain ⟨i4, i5, i6, iq, iw, il, i7, i8, ih9, ik, iF⟩ := hI
  obtain ⟨m2, m3, m4, m5, m0, m6, m7, m8⟩ := hM
  have hN0 : reM (n 5) (g 10) (g 10) (f 7) (n 8) (f 8) (k 5) := ⟨hM0.2.2.2.2, fun _ _ => rfl⟩
  refine lv_bipush (v := nI (8)) hx hb dX5_know_0 (by decide) ?_
  refine lv_bipush (v := nI (6)) hx hb dX5_know_2 (by decide) ?_
  refine lv_aload_n hx hb dX5_know_4 rfl (lv_at hl 0 rfl) ?_
  refine va_get (D := D) (ci := 4) (v := .ref (am 10)) (C := RX5) (T := TX5) (N := 21) hx hb hts (iX5) hown hK hP 0 rfl rfl 17 (by decide) (hts _ (List.mem_cons_of_mem _ wt_617)) (fun _ h9 => h9) rfl dX5_know_5 ?_
  refine lv_bipush (v := nI (7)) hx hb dX5_know_8 (by decide) ?_
  refine n_iald hx hb hK hP 1 (f := g 10) rfl (by omega) dX5_know_10 ?_
  refine n_tope (show nI (g 10 7) = nI (n 8) from congrArg nI (m7)) ?_
  refine n_imul hx hb dX5_know_11 ?_
  refine n_iadd hx hb dX5_know_12 ?_
  refine lv_istore (lv' := [(5, .int (nI (8 + (6 * (n 8))))), (0, .ref (am 0)), (1, .int (nI t)), (2, .int (nI j9)), (3, .int (nI cu)), (4, .int (nI sd))]) hx hb dX5_know_13 hl (by decide) rfl (fun ls hl => ?_)
  refine lv_aload_n hx hb dX5_know_15 rfl (lv_at hl 1 rfl) ?_
  refine va_get (D := D) (ci := 4) (v := .ref (am 10)) (C := RX5) (T := TX5) (N := 21) hx hb hts (iX5) hown hK hP 0 rfl rfl 17 (by decide) (hts _ (List.mem_cons_of_mem _ wt_617)) (fun _ h9 => h9) rfl dX5_know_16 ?_
  refine lv_iload hx hb dX5_know_19 (lv_at hl 0 rfl) ?_
  refine lv_iload_n hx hb dX5_know_21 rfl (lv_at hl 2 rfl) ?_
  refine n_iast hx hb hK hP hD hS 1 (f := g 10) rfl (by omega) dX5_know_22 (fun H locs hP hD hS => ?_)
  have hP : va_P D cls5 [(am 0, .inr (4, [.long (tr), .ref (am 1), .int (nI (j 0)), .ref (am 2), .ref (am 3), .ref (am 4), .ref (am 5), .ref (am 6), .ref (am 7), .ref (am 8), .ref (am 9), .int (nI (j 1)), .int (nI (j 2)), .int (nI (j 3)), .int (nI (j 4)), .int (fl), .int (bI (hh)), .ref (am 10), .ref (am 11), .ref (am 12), .int (nI (j 5))])), (am 10, .inl (G.1, 240, .inl (nF (va_up (g 10) (8 + (6 * (n 8))) t))))] H := hP
  have hD : va_D A [(am 0, .inr (4, [.long (tr), .ref (am 1), .int (nI (j 0)), .ref (am 2), .ref (am 3), .ref (am 4), .ref (am 5), .ref (am 6), .ref (am 7), .ref (am 8), .ref (am 9), .int (nI (j 1)), .int (nI (j 2)), .int (nI (j 3)), .int (nI (j 4)), .int (fl), .int (bI (hh)), .ref (am 10), .ref (am 11), .ref (am 12), .int (nI (j 5))])), (am 10, .inl (G.1, 240, .inl (nF (va_up (g 10) (8 + (6 * (n 8))) t))))] := hD
  refine lv_aload_n hx hb dX5_know_23 rfl (lv_at hl 1 rfl) ?_
  refine va_get (D := D) (ci := 4) (v := .ref (am 10)) (C := RX5) (T := TX5) (N := 21) hx hb hts (iX5) hown hK hP 0 rfl rfl 17 (by decide) (hts _ (List.mem_cons_of_mem _ wt_617)) (fun _ h9 => h9) rfl dX5_know_24 ?_
  refine lv_iload hx hb dX5_know_27 (lv_at hl 0 rfl) ?_
  refine lv_iconst (v := nI (1)) hx hb dX5_know_29 (by decide) ?_
  refine n_iadd hx hb dX5_know_30 ?_
  refine lv_aload_n hx hb dX5_know_31 rfl (lv_at hl 1 rfl) ?_
  refine va_get (D := D) (ci := 4) (v := .ref (am 10)) (C := RX5) (T := TX5) (N := 21) hx hb hts (iX5) hown hK hP 0 rfl rfl 17 (by decide) (hts _ (List.mem_cons_of_mem _ wt_617)) (fun _ h9 => h9) rfl dX5_know_32 ?_
  refine lv_iload_n hx hb dX5_know_35 rfl (lv_at hl 2 rfl) ?_
  refine n_iald hx hb hK hP 1 (f := va_up (g 10) (8 + (6 * (n 8))) t) rfl (by omega) dX5_know_36 ?_
  refine n_tope (show nI ((va_up (g 10) (8 + (6 * (n 8))) t) t) = nI (f 7 t) from congrArg nI ((upn (by simp only [va_up]; repeat (rw [if_neg (by omega)]))).trans ((m0 t (by omega)).trans (if_pos (by omega))))) ?_
  refine n_iast hx hb hK hP hD hS 1 (f := va_up (g 10) (8 + (6 * (n 8))) t) rfl (by omega) dX5_know_37 (fun H locs hP hD hS => ?_)
  have hP : va_P D cls5 [(am 0, .inr (4, [.long (tr), .ref (am 1), .int (nI (j 0)), .ref (am 2), .ref (am 3), .ref (am 4), .ref (am 5), .ref (am 6), .ref (am 7), .ref (am 8), .ref (am 9), .int (nI (j 1)), .int (nI (j 2)), .int (nI (j 3)), .int (nI (j 4)), .int (fl), .int (bI (hh)), .ref (am 10), .ref (am 11), .ref (am 12), .int (nI (j 5))])), (am 10, .inl (G.1, 240, .inl (nF (va_up (va_up (g 10) (8 + (6 * (n 8))) t) ((8 + (6 * (n 8))) + 1) (f 7 t)))))] H := hP
  have hD : va_D A [(am 0, .inr (4, [.long (tr), .ref (am 1), .int (nI (j 0)), .ref (am 2), .ref (am 3), .ref (am 4), .ref (am 5), .ref (am 6), .ref (am 7), .ref (am 8), .ref (am 9), .int (nI (j 1)), .int (nI (j 2)), .int (nI (j 3)), .int (nI (j 4)), .int (fl), .int (bI (hh)), .ref (am 10), .ref (am 11), .ref (am 12), .int (nI (j 5))])), (am 10, .inl (G.1, 240, .inl (nF (va_up (va_up (g 10) (8 + (6 * (n 8))) t) ((8 + (6 * (n 8))) + 1) (f 7 t)))))] := hD
  refine lv_aload_n hx hb dX5_know_38 rfl (lv_at hl 1 rfl) ?_
  refine va_get (D := D) (ci := 4) (v := .ref (am 10)) (C := RX5) (T := TX5) (N := 21) hx hb hts (iX5) hown hK hP 0 rfl rfl 17 (by decide) (hts _ (List.mem_cons_of_mem _ wt_617)) (fun _ h9 => h9) rfl dX5_know_39 ?_
  refine lv_iload hx hb dX5_know_42 (lv_at hl 0 rfl) ?_
  refine lv_iconst (v := nI (2)) hx hb dX5_know_44 (by decide) ?_
  refine n_iadd hx hb dX5_know_45 ?_
  refine lv_aload_n hx hb dX5_know_46 rfl (lv_at hl 1 rfl) ?_
  refine va_get (D := D) (ci := 4) (v := .ref (am 10)) (C := RX5) (T := TX5) (N := 21) hx hb hts (iX5) hown hK hP 0 rfl rfl 17 (by decide) (hts _ (List.mem_cons_of_mem _ wt_617)) (fun _ h9 => h9) rfl dX5_know_47 ?_
  refine lv_bipush (v := nI (6)) hx hb dX5_know_50 (by decide) ?_
  refine n_iald hx hb hK hP 1 (f := va_up (va_up (g 10) (8 + (6 * (n 8))) t) ((8 + (6 * (n 8))) + 1) (f 7 t)) rfl (by omega) dX5_know_52 ?_
  refine n_tope (show nI ((va_up (va_up (g 10) (8 + (6 * (n 8))) t) ((8 + (6 * (n 8))) + 1) (f 7 t)) 6) = nI (k 5) from congrArg nI ((upn (by simp only [va_up]; repeat (rw [if_neg (by omega)]))).trans (m6))) ?_
  refine n_iast hx hb hK hP hD hS 1 (f := va_up (va_up (g 10) (8 + (6 * (n 8))) t) ((8 + (6 * (n 8))) + 1) (f 7 t)) rfl (by omega) dX5_know_53 (fun H locs hP hD hS => ?_)
  have hP : va_P D cls5 [(am 0, .inr (4, [.long (tr), .ref (am 1), .int (nI (j 0)), .ref (am 2), .ref (am 3), .ref (am 4), .ref (am 5), .ref (am 6), .ref (am 7), .ref (am 8), .ref (am 9), .int (nI (j 1)), .int (nI (j 2)), .int (nI (j 3)), .int (nI (j 4)), .int (fl), .int (bI (hh)), .ref (am 10), .ref (am 11), .ref (am 12), .int (nI (j 5))])), (am 10, .inl (G.1, 240, .inl (nF (va_up (va_up (va_up (g 10) (8 + (6 * (n 8))) t) ((8 + (6 * (n 8))) + 1) (f 7 t)) ((8 + (6 * (n 8))) + 2) (k 5)))))] H := hP
  have hD : va_D A [(am 0, .inr (4, [.long (tr), .ref (am 1), .int (nI (j 0)), .ref (am 2), .ref (am 3), .ref (am 4), .ref (am 5), .ref (am 6), .ref (am 7), .ref (am 8), .ref (am 9), .int (nI (j 1)), .int (nI (j 2)), .int (nI (j 3)), .int (nI (j 4)), .int (fl), .int (bI (hh)), .ref (am 10), .ref (am 11), .ref (am 12), .int (nI (j 5))])), (am 10, .inl (G.1, 240, .inl (nF (va_up (va_up (va_up (g 10) (8 + (6 * (n 8))) t) ((8 + (6 * (n 8))) + 1) (f 7 t)) ((8 + (6 * (n 8))) + 2) (k 5)))))] := hD
  refine lv_aload_n hx hb dX5_know_54 rfl (lv_at hl 1 rfl) ?_
  refine va_get (D := D) (ci := 4) (v := .ref (am 10)) (C := RX5) (T := TX5) (N := 21) hx hb hts (iX5) hown hK hP 0 rfl rfl 17 (by decide) (hts _ (List.mem_cons_of_mem _ wt_617)) (fun _ h9 => h9) rfl dX5_know_55 ?_
  refine lv_iload hx hb dX5_know_58 (lv_at hl 0 rfl) ?_
  refine lv_iconst (v := nI (3)) hx hb dX5_know_60 (by decide) ?_
  refine n_iadd hx hb dX5_know_61 ?_
  refine lv_iload_n hx hb dX5_know_62 rfl (lv_at hl 3 rfl) ?_
  refine n_iast hx hb hK hP hD hS 1 (f := va_up (va_up (va_up (g 10) (8 + (6 * (n 8))) t) ((8 + (6 * (n 8))) + 1) (f 7 t)) ((8 + (6 * (n 8))) + 2) (k 5)) rfl (by omega) dX5_know_63 (fun H locs hP hD hS => ?_)
  have hP : va_P D cls5 [(am 0, .inr (4, [.long (tr), .ref (am 1), .int (nI (j 0)), .ref (am 2), .ref (am 3), .ref (am 4), .ref (am 5), .ref (am 6), .ref (am 7), .ref (am 8), .ref (am 9), .int (nI (j 1)), .int (nI (j 2)), .int (nI (j 3)), .int (nI (j 4)), .int (fl), .int (bI (hh)), .ref (am 10), .ref (am 11), .ref (am 12), .int (nI (j 5))])), (am 10, .inl (G.1, 240, .inl (nF (va_up (va_up (va_up (va_up (g 10) (8 + (6 * (n 8))) t) ((8 + (6 * (n 8))) + 1) (f 7 t)) ((8 + (6 * (n 8))) + 2) (k 5)) ((8 + (6 * (n 8))) + 3) j9))))] H := hP
  have hD : va_D A [(am 0, .inr (4, [.long (tr), .ref (am 1), .int (nI (j 0)), .ref (am 2), .ref (am 3), .ref (am 4), .ref (am 5), .ref (am 6), .ref (am 7), .ref (am 8), .ref (am 9), .int (nI (j 1)), .int (nI (j 2)), .int (nI (j 3)), .int (nI (j 4)), .int (fl), .int (bI (hh)), .ref (am 10), .ref (am 11), .ref (am 12), .int (nI (j 5))])), (am 10, .inl (G.1, 240, .inl (nF (va_up (va_up (va_up (va_up (g 10) (8 + (6 * (n 8))) t) ((8 + (6 * (n 8))) + 1) (f 7 t)) ((8 + (6 * (n 8))) + 2) (k 5)) ((8 + (6 * (n 8))) + 3) j9))))] := hD
  refine lv_aload_n hx hb dX5_know_64 rfl (lv_at hl 1 rfl) ?_
  refine va_get (D := D) (ci := 4) (v := .ref (am 10)) (C := RX5) (T := TX5) (N := 21) hx hb hts (iX5) hown hK hP 0 rfl rfl 17 (by decide) (hts _ (List.mem_cons_of_mem _ wt_617)) (fun _ h9 => h9) rfl dX5_know_65 ?_
  refine lv_iload hx hb dX5_know_68 (lv_at hl 0 rfl) ?_
  refine lv_iconst (v := nI (4)) hx hb dX5_know_70 (by decide) ?_
  refine n_iadd hx hb dX5_know_71 ?_
  refine lv_iload_n hx hb dX5_know_72 rfl (lv_at hl 4 rfl) ?_
  refine n_iast hx hb hK hP hD hS 1 (f := va_up (va_up (va_up (va_up (g 10) (8 + (6 * (n 8))) t) ((8 + (6 * (n 8))) + 1) (f 7 t)) ((8 + (6 * (n 8))) + 2) (k 5)) ((8 + (6 * (n 8))) + 3) j9) rfl (by omega) dX5_know_73 (fun H locs hP hD hS => ?_)
  have hP : va_P D cls5 [(am 0, .inr (4, [.long (tr), .ref (am 1), .int (nI (j 0)), .ref (am 2), .ref (am 3), .ref (am 4), .ref (am 5), .ref (am 6), .ref (am 7), .ref (am 8), .ref (am 9), .int (nI (j 1)), .int (nI (j 2)), .int (nI (j 3)), .int (nI (j 4)), .int (fl), .int (bI (hh)), .ref (am 10), .ref (am 11), .ref (am 12), .int (nI (j 5))])), (am 10, .inl (G.1, 240, .inl (nF (va_up (va_up (va_up (va_up (va_up (g 10) (8 + (6 * (n 8))) t) ((8 + (6 * (n 8))) + 1) (f 7 t)) ((8 + (6 * (n 8))) + 2) (k 5)) ((8 + (6 * (n 8))) + 3) j9) ((8 + (6 * (n 8))) + 4) cu))))] H := hP
  have hD : va_D A [(am 0, .inr (4, [.long (tr), .ref (am 1), .int (nI (j 0)), .ref (am 2), .ref (am 3), .ref (am 4), .ref (am 5), .ref (am 6), .ref (am 7), .ref (am 8), .ref (am 9), .int (nI (j 1)), .int (nI (j 2)), .int (nI (j 3)), .int (nI (j 4)), .int (fl), .int (bI (hh)), .ref (am 10), .ref (am 11), .ref (am 12), .int (nI (j 5))])), (am 10, .inl (G.1, 240, .inl (nF (va_up (va_up (va_up (va_up (va_up (g 10) (8 + (6 * (n 8))) t) ((8 + (6 * (n 8))) + 1) (f 7 t)) ((8 + (6 * (n 8))) + 2) (k 5)) ((8 + (6 * (n 8))) + 3) j9) ((8 + (6 * (n 8))) + 4) cu))))] := hD
  refine lv_aload_n hx hb dX5_know_74 rfl (lv_at hl 1 rfl) ?_
  refine va_get (D := D) (ci := 4) (v := .ref (am 10)) (C := RX5) (T := TX5) (N := 21) hx hb hts (iX5) hown hK hP 0 rfl rfl 17 (by decide) (hts _ (List.mem_cons_of_mem _ wt_617)) (fun _ h9 => h9) rfl dX5_know_75 ?_
  refine lv_iload hx hb dX5_know_78 (lv_at hl 0 rfl) ?_
  refine lv_iconst (v := nI (5)) hx hb dX5_know_80 (by decide) ?_
  refine n_iadd hx hb dX5_know_81 ?_
  refine lv_iload hx hb dX5_know_82 (lv_at hl 5 rfl) ?_
  refine n_iast hx hb hK hP hD hS 1 (f := va_up (va_up (va_up (va_up (va_up (g 10) (8 + (6 * (n 8))) t) ((8 + (6 * (n 8))) + 1) (f 7 t)) ((8 + (6 * (n 8))) + 2) (k 5)) ((8 + (6 * (n 8))) + 3) j9) ((8 + (6 * (n 8))) + 4) cu) rfl (by omega) dX5_know_84 (fun H locs hP hD hS => ?_)
  have hP : va_P D cls5 [(am 0, .inr (4, [.long (tr), .ref (am 1), .int (nI (j 0)), .ref (am 2), .ref (am 3), .ref (am 4), .ref (am 5), .ref (am 6), .ref (am 7), .ref (am 8), .ref (am 9), .int (nI (j 1)), .int (nI (j 2)), .int (nI (j 3)), .int (nI (j 4)), .int (fl), .int (bI (hh)), .ref (am 10), .ref (am 11), .ref (am 12), .int (nI (j 5))])), (am 10, .inl (G.1, 240, .inl (nF (va_up (va_up (va_up (va_up (va_up (va_up (g 10) (8 + (6 * (n 8))) t) ((8 + (6 * (n 8))) + 1) (f 7 t)) ((8 + (6 * (n 8))) + 2) (k 5)) ((8 + (6 * (n 8))) + 3) j9) ((8 + (6 * (n 8))) + 4) cu) ((8 + (6 * (n 8))) + 5) sd))))] H := hP
  have hD : va_D A [(am 0, .inr (4, [.long (tr), .ref (am 1), .int (nI (j 0)), .ref (am 2), .ref (am 3), .ref (am 4), .ref (am 5), .ref (am 6), .ref (am 7), .ref (am 8), .ref (am 9), .int (nI (j 1)), .int (nI (j 2)), .int (nI (j 3)), .int (nI (j 4)), .int (fl), .int (bI (hh)), .ref (am 10), .ref (am 11), .ref (am 12), .int (nI (j 5))])), (am 10, .inl (G.1, 240, .inl (nF (va_up (va_up (va_up (va_up (va_up (va_up (g 10) (8 + (6 * (n 8))) t) ((8 + (6 * (n 8))) + 1) (f 7 t)) ((8 + (6 * (n 8))) + 2) (k 5)) ((8 + (6 * (n 8))) + 3) j9) ((8 + (6 * (n 8))) + 4) cu) ((8 + (6 * (n 8))) + 5) sd))))] := hD
  refine lv_aload_n hx hb dX5_know_85 rfl (lv_at hl 1 rfl) ?_
  refine va_get (D := D) (ci := 4) (v := .ref (am 10)) (C := RX5) (T := TX5) (N := 21) hx hb hts (iX5) hown hK hP 0 rfl rfl 17 (by decide) (hts _ (List.mem_cons_of_mem _ wt_617)) (fun _ h9 => h9) rfl dX5_know_86 ?_
  refine lv_bipush (v := nI (7)) hx hb dX5_know_89 (by decide) ?_
  refine lv_dup2_11 hx hb dX5_know_91 rfl rfl ?_
  refine n_iald hx hb hK hP 1 (f := va_up (va_up (va_up (va_up (va_up (va_up (g 10) (8 + (6 * (n 8))) t) ((8 + (6 * (n 8))) + 1) (f 7 t)) ((8 + (6 * (n 8))) + 2) (k 5)) ((8 + (6 * (n 8))) + 3) j9) ((8 + (6 * (n 8))) + 4) cu) ((8 + (6 * (n 8))) + 5) sd) rfl (by omega) dX5_know_92 ?_
  refine n_tope (show nI ((va_up (va_up (va_up (va_up (va_up (va_up (g 10) (8 + (6 * (n 8))) t) ((8 + (6 * (n 8))) + 1) (f 7 t)) ((8 + (6 * (n 8))) + 2) (k 5)) ((8 + (6 * (n 8))) + 3) j9) ((8 + (6 * (n 8))) + 4) cu) ((8 + (6 * (n 8))) + 5) sd) 7) = nI (n 8) from congrArg nI ((upn (by simp only [va_up]; repeat (rw [if_neg (by omega)]))).trans (m7))) ?_
  refine lv_iconst (v := nI (1)) hx hb dX5_know_93 (by decide) ?_
  refine n_iadd hx hb dX5_know_94 ?_
  refine n_iast hx hb hK hP hD hS 1 (f := va_up (va_up (va_up (va_up (va_up (va_up (g 10) (8 + (6 * (n 8))) t) ((8 + (6 * (n 8))) + 1) (f 7 t)) ((8 + (6 * (n 8))) + 2) (k 5)) ((8 + (6 * (n 8))) + 3) j9) ((8 + (6 * (n 8))) + 4) cu) ((8 + (6 * (n 8))) + 5) sd) rfl (by omega) dX5_know_95 (fun H locs hP hD hS => ?_)
  have hP : va_P D cls5 [(am 0, .inr (4, [.long (tr), .ref (am 1), .int (nI (j 0)), .ref (am 2), .ref (am 3), .ref (am 4), .ref (am 5), .ref (am 6), .ref (am 7), .ref (am 8), .ref (am 9), .int (nI (j 1)), .int (nI (j 2)), .int (nI (j 3)), .int (nI (j 4)), .int (fl), .int (bI (hh)), .ref (am 10), .ref (am 11), .ref (am 12), .int (nI (j 5))])), (am 10, .inl (G.1, 240, .inl (nF (va_up (va_up (va_up (va_up (va_up (va_up (va_up (g 10) (8 + (6 * (n 8))) t) ((8 + (6 * (n 8))) + 1) (f 7 t)) ((8 + (6 * (n 8))) + 2) (k 5)) ((8 + (6 * (n 8))) + 3) j9) ((8 + (6 * (n 8))) + 4) cu) ((8 + (6 * (n 8))) + 5) sd) 7 ((n 8) + 1)))))] H := hP
  have hD : va_D A [(am 0, .inr (4, [.long (tr), .ref (am 1), .int (nI (j 0)), .ref (am 2), .ref (am 3), .ref (am 4), .ref (am 5), .ref (am 6), .ref (am 7), .ref (am 8), .ref (am 9), .int (nI (j 1)), .int (nI (j 2)), .int (nI (j 3)), .int (nI (j 4)), .int (fl), .int (bI (hh)), .ref (am 10), .ref (am 11), .ref (am 12), .int (nI (j 5))])), (am 10, .inl (G.1, 240, .inl (nF (va_up (va_up (va_up (va_up (va_up (va_up (va_up (g 10) (8 + (6 * (n 8))) t) ((8 + (6 * (n 8))) + 1) (f 7 t)) ((8 + (6 * (n 8))) + 2) (k 5)) ((8 + (6 * (n 8))) + 3) j9) ((8 + (6 * (n 8))) + 4) cu) ((8 + (6 * (n 8))) + 5) sd) 7 ((n 8) + 1)))))] := hD
  exact wr_vret (()) hx hb hr hlocks hAe hS dX5_know_96 (hP) (trivial)

set_option maxHeartbeats 4000000 in
set_option maxRecDepth 100000 in
theorem c_X5_weighs (l : Launch) (D : va_G) (G : ClassId × ClassId × ClassId) (H0 : Heap) (am n : Nat → Nat) (f : Nat → Nat → Nat) (k : Nat → Nat) (g : Nat → Nat → Nat) (j : Nat → Nat) (tx : Nat → Int32) (fl : Int32) (hh : Bool) (kp : Nat → Bool) (tr : Int64) (q : Nat) (a a2 : Int32) (hI : XI n f k q) (hM : RQ n f k g) : Met l yX5_weighs (wM yX5_weighs cX5_weighs 4 (some .int)) (rmD 4) (wP D G [.ref (am 0), .int (a), .int (a2)] [(am 0, .inr (4, [.long (tr), .ref (am 1), .int (nI (j 0)), .ref (am 2), .ref (am 3), .ref (am 4), .ref (am 5), .ref (am 6), .ref (am 7), .ref (am 8), .ref (am 9), .int (nI (j 1)), .int (nI (j 2)), .int (nI (j 3)), .int (nI (j 4)), .int (fl), .int (bI (hh)), .ref (am 10), .ref (am 11), .ref (am 12), .int (nI (j 5))])), (am 2, .inl (G.1, 2, .inl (nF (g 2)))), (am 3, .inl (G.1, 10, .inl (nF (g 3)))), (am 4, .inl (G.1, 2, .inl (nF (g 4)))), (am 5, .inl (G.1, 12, .inl (nF (g 5)))), (am 6, .inl (G.1, 12, .inl (nF (g 6)))), (am 7, .inl (G.1, 12, .inl (nF (g 7)))), (am 8, .inl (G.1, 12, .inl (nF (g 8)))), (am 10, .inl (G.1, 240, .inl (nF (g 10))))] H0) (wQi (S := (Nat → Nat)) D (fun r u => r = (spWeighs n f k a a2).1 ∧ reM (n 5) (g 10) u (spWeighs n f k a a2).2.2.1 (spWeighs n f k a a2).2.1 (spWeighs n f k a a2).2.2.2 (k 5)) [(am 0, .inr (4, [.long (tr), .ref (am 1), .int (nI (j 0)), .ref (am 2), .ref (am 3), .ref (am 4), .ref (am 5), .ref (am 6), .ref (am 7), .ref (am 8), .ref (am 9), .int (nI (j 1)), .int (nI (j 2)), .int (nI (j 3)), .int (nI (j 4)), .int (fl), .int (bI (hh)), .ref (am 10), .ref (am 11), .ref (am 12), .int (nI (j 5))])), (am 2, .inl (G.1, 2, .inl (nF (g 2)))), (am 3, .inl (G.1, 10, .inl (nF (g 3)))), (am 4, .inl (G.1, 2, .inl (nF (g 4)))), (am 5, .inl (G.1, 12, .inl (nF (g 5)))), (am 6, .inl (G.1, 12, .inl (nF (g 6)))), (am 7, .inl (G.1, 12, .inl (nF (g 7)))), (am 8, .inl (G.1, 12, .inl (nF (g 8)))), (am 10, .inl (G.1, 240, .inl (nF (g 10))))] (fun u => [(am 0, .inr (4, [.long (tr), .ref (am 1), .int (nI (j 0)), .ref (am 2), .ref (am 3), .ref (am 4), .ref (am 5), .ref (am 6), .ref (am 7), .ref (am 8), .ref (am 9), .int (nI (j 1)), .int (nI (j 2)), .int (nI (j 3)), .int (nI (j 4)), .int (fl), .int (bI (hh)), .ref (am 10), .ref (am 11), .ref (am 12), .int (nI (j 5))])), (am 2, .inl (G.1, 2, .inl (nF (g 2)))), (am 3, .inl (G.1, 10, .inl (nF (g 3)))), (am 4, .inl (G.1, 2, .inl (nF (g 4)))), (am 5, .inl (G.1, 12, .inl (nF (g 5)))), (am 6, .inl (G.1, 12, .inl (nF (g 6)))), (am 7, .inl (G.1, 12, .inl (nF (g 7)))), (am 8, .inl (G.1, 12, .inl (nF (g 8)))), (am 10, .inl (G.1, 240, .inl (nF (u))))]) H0) 0 0 (va_A [(am 0, .inr (4, [.long (tr), .ref (am 1), .int (nI (j 0)), .ref (am 2), .ref (am 3), .ref (am 4), .ref (am 5), .ref (am 6), .ref (am 7), .ref (am 8), .ref (am 9), .int (nI (j 1)), .int (nI (j 2)), .int (nI (j 3)), .int (nI (j 4)), .int (fl), .int (bI (hh)), .ref (am 10), .ref (am 11), .ref (am 12), .int (nI (j 5))])), (am 2, .inl (G.1, 2, .inl (nF (g 2)))), (am 3, .inl (G.1, 10, .inl (nF (g 3)))), (am 4, .inl (G.1, 2, .inl (nF (g 4)))), (am 5, .inl (G.1, 12, .inl (nF (g 5)))), (am 6, .inl (G.1, 12, .inl (nF (g 6)))), (am 7, .inl (G.1, 12, .inl (nF (g 7)))), (am 8, .inl (G.1, 12, .inl (nF (g 8)))), (am 10, .inl (G.1, 240, .inl (nF (g 10))))] H0.size) := by
  refine wr_start (Qc := fun H0 => (wQi (S := (Nat → Nat)) D (fun r u => r = (spWeighs n f k a a2).1 ∧ reM (n 5) (g 10) u (spWeighs n f k a a2).2.2.1 (spWeighs n f k a a2).2.1 (spWeighs n f k a a2).2.2.2 (k 5)) [(am 0, .inr (4, [.long (tr), .ref (am 1), .int (nI (j 0)), .ref (am 2), .ref (am 3), .ref (am 4), .ref (am 5), .ref (am 6), .ref (am 7), .ref (am 8), .ref (am 9), .int (nI (j 1)), .int (nI (j 2)), .int (nI (j 3)), .int (nI (j 4)), .int (fl), .int (bI (hh)), .ref (am 10), .ref (am 11), .ref (am 12), .int (nI (j 5))])), (am 2, .inl (G.1, 2, .inl (nF (g 2)))), (am 3, .inl (G.1, 10, .inl (nF (g 3)))), (am 4, .inl (G.1, 2, .inl (nF (g 4)))), (am 5, .inl (G.1, 12, .inl (nF (g 5)))), (am 6, .inl (G.1, 12, .inl (nF (g 6)))), (am 7, .inl (G.1, 12, .inl (nF (g 7)))), (am 8, .inl (G.1, 12, .inl (nF (g 8)))), (am 10, .inl (G.1, 240, .inl (nF (g 10))))] (fun u => [(am 0, .inr (4, [.long (tr), .ref (am 1), .int (nI (j 0)), .ref (am 2), .ref (am 3), .ref (am 4), .ref (am 5), .ref (am 6), .ref (am 7), .ref (am 8), .ref (am 9), .int (nI (j 1)), .int (nI (j 2)), .int (nI (j 3)), .int (nI (j 4)), .int (fl), .int (bI (hh)), .ref (am 10), .ref (am 11), .ref (am 12), .int (nI (j 5))])), (am 2, .inl (G.1, 2, .inl (nF (g 2)))), (am 3, .inl (G.1, 10, .inl (nF (g 3)))), (am 4, .inl (G.1, 2, .inl (nF (g 4)))), (am 5, .inl (G.1, 12, .inl (nF (g 5)))), (am 6, .inl (G.1, 12, .inl (nF (g 6)))), (am 7, .inl (G.1, 12, .inl (nF (g 7)))), (am 8, .inl (G.1, 12, .inl (nF (g 8)))), (am 10, .inl (G.1, 240, .inl (nF (u))))]) H0)) (by decide) (Nat.le_of_ble_eq_true rfl) ?_
  intro p e s m args below meth c hx hb hr hts hown hlocks hml hK A hAe hA hH0 ls hl H locs hP hD hS
  have hl : lv_has ls 4 [(0, .ref (am 0)), (1, .int (a)), (2, .int (a2))] := hl
  have hI0 := hI
  have hM0 := hM
  obtain ⟨i4, i5, i6, iq, iw, il, i7, i8, ih9, ik, iF⟩ := hI
  obtain ⟨m2, m3, m4, m5, m0, m6, m7, m8⟩ := hM
  have hN0 : reM (n 5) (g 10) (g 10) (f 7) (n 8) (f 8) (k 5) := ⟨hM0.2.2.2.2, fun _ _ => rfl⟩
  refine lv_aload_n hx hb dX5_weighs_0 rfl (lv_at hl 0 rfl) ?_
  refine lv_iload_n hx hb dX5_weighs_1 rfl (lv_at hl 1 rfl) ?_
  refine ro_i (roV_run (As := [.int (a)]) (rest := []) hx hb hml hown hts Tg_M (c_X5_isTaster l D G _ am n f k g j tx fl hh kp tr q (a) hI0 hM0) lk_RX5_109 ⟨rfl, rfl, Nat.le_of_ble_eq_true rfl, Nat.le_of_ble_eq_true rfl⟩ hP hK [0, 3] rfl 0 4 rfl rfl rfl rfl hl rfl (Nat.le_of_ble_eq_true rfl) dX5_weighs_2 ⟨Nat.le_of_ble_eq_true rfl, Nat.le_of_ble_eq_true rfl⟩) hS hA (fun locs hS => ?_)
  refine b_if_eq (tgt := 16) hx hb dX5_weighs_5 (by decide) (fun c_5 => ?_) (fun c_5 => ?_)
  · have e_t := ix_no c_5
    refine lv_iconst (v := (-1)) hx hb dX5_weighs_16 (by decide) ?_
    exact wr_iret (g 10) hx hb hr hlocks hAe hS dX5_weighs_17 (hP) (by simp only [spWeighs, e_t, Option.elim]; exact ⟨by trivial, hN0⟩)
  · obtain ⟨t, h_t, rfl⟩ := hasB_N (by omega) c_5
    have e_t := ix_yes h_t (show n 5 < 2 ^ 31 by omega)
    refine lv_aload_n hx hb dX5_weighs_8 rfl (lv_at hl 0 rfl) ?_
    refine lv_iload_n hx hb dX5_weighs_9 rfl (lv_at hl 2 rfl) ?_
    refine ro_i (roV_run (As := [.int (a2)]) (rest := []) hx hb hml hown hts Tg_M (c_X5_isLoad l D G _ am n f k g j tx fl hh kp tr q (a2) hI0 hM0) lk_RX5_105 ⟨rfl, rfl, Nat.le_of_ble_eq_true rfl, Nat.le_of_ble_eq_true rfl⟩ hP hK [0, 1] rfl 0 4 rfl rfl rfl rfl hl rfl (Nat.le_of_ble_eq_true rfl) dX5_weighs_10 ⟨Nat.le_of_ble_eq_true rfl, Nat.le_of_ble_eq_true rfl⟩) hS hA (fun locs hS => ?_)
    refine b_if_ne (tgt := 18) hx hb dX5_weighs_13 (by decide) (fun c_13 => ?_) (fun c_13 => ?_)
    · obtain ⟨j9, h_j9, rfl⟩ := hasB_N (by omega) c_13
      have e_j9 := ix_yes h_j9 (show n 4 < 2 ^ 31 by omega)
      refine lv_aload_n hx hb dX5_weighs_18 rfl (lv_at hl 0 rfl) ?_
      refine va_get (D := D) (ci := 4) (v := .ref (am 10)) (C := RX5) (T := TX5) (N := 21) hx hb hts (iX5) hown hK hP 0 rfl rfl 17 (by decide) (hts _ (List.mem_cons_of_mem _ wt_617)) (fun _ h9 => h9) rfl dX5_weighs_19 ?_
      refine lv_bipush (v := nI (7)) hx hb dX5_weighs_22 (by decide) ?_
      refine n_iald hx hb hK hP 8 (f := g 10) rfl (by omega) dX5_weighs_24 ?_
      refine n_tope (show nI (g 10 7) = nI (n 8) from congrArg nI (m7)) ?_
      refine lv_bipush (v := nI (12)) hx hb dX5_weighs_25 (by decide) ?_
      refine n_icmp_ne (tgt := 33) hx hb dX5_weighs_27 (by decide) (by omega) (by omega) (fun c_27 => ?_) (fun c_27 => ?_)
      · have e3 := iw j9 h_j9; have e4 := ik t h_t
        refine lv_aload_n hx hb dX5_weighs_33 rfl (lv_at hl 0 rfl) ?_
        refine lv_iload_n hx hb dX5_weighs_34 rfl (lv_at hl 1 rfl) ?_
        refine lv_aload_n hx hb dX5_weighs_35 rfl (lv_at hl 0 rfl) ?_
        refine va_get (D := D) (ci := 4) (v := .ref (am 3)) (C := RX5) (T := TX5) (N := 21) hx hb hts (iX5) hown hK hP 0 rfl rfl 4 (by decide) (hts _ (List.mem_cons_of_mem _ wt_604)) (fun _ h9 => h9) rfl dX5_weighs_36 ?_
        refine lv_iload_n hx hb dX5_weighs_39 rfl (lv_at hl 2 rfl) ?_
        refine n_iald hx hb hK hP 2 (f := g 3) rfl (by omega) dX5_weighs_40 ?_
        refine n_tope (show nI (g 3 j9) = nI (f 4 j9) from congrArg nI (m3 _ (by omega))) ?_
        refine lv_aload_n hx hb dX5_weighs_41 rfl (lv_at hl 0 rfl) ?_
        refine va_get (D := D) (ci := 4) (v := .ref (am 10)) (C := RX5) (T := TX5) (N := 21) hx hb hts (iX5) hown hK hP 0 rfl rfl 17 (by decide) (hts _ (List.mem_cons_of_mem _ wt_617)) (fun _ h9 => h9) rfl dX5_weighs_42 ?_
        refine lv_iload_n hx hb dX5_weighs_45 rfl (lv_at hl 1 rfl) ?_
        refine n_iald hx hb hK hP 8 (f := g 10) rfl (by omega) dX5_weighs_46 ?_
        refine n_tope (show nI (g 10 t) = nI (f 7 t) from congrArg nI ((m0 t (by omega)).trans (if_pos (by omega)))) ?_
        refine lv_aload_n hx hb dX5_weighs_47 rfl (lv_at hl 0 rfl) ?_
        refine va_get (D := D) (ci := 4) (v := .ref (am 10)) (C := RX5) (T := TX5) (N := 21) hx hb hts (iX5) hown hK hP 0 rfl rfl 17 (by decide) (hts _ (List.mem_cons_of_mem _ wt_617)) (fun _ h9 => h9) rfl dX5_weighs_48 ?_
        refine lv_bipush (v := nI (6)) hx hb dX5_weighs_51 (by decide) ?_
        refine n_iald hx hb hK hP 8 (f := g 10) rfl (by omega) dX5_weighs_53 ?_
        refine n_tope (show nI (g 10 6) = nI (k 5) from congrArg nI (m6)) ?_
        refine ro_i (roV_run (As := [.int (nI t), .int (nI (f 4 j9)), .int (nI (f 7 t)), .int (nI (k 5))]) (rest := []) hx hb hml hown hts Tg_M (c_X5_cupsOf l D G _ am n f k g j tx fl hh kp tr t (f 4 j9) (f 7 t) (k 5) (by omega) il m5 (by omega) (by omega) (by omega) (by omega)) lk_RX5_112 ⟨rfl, rfl, Nat.le_of_ble_eq_true rfl, Nat.le_of_ble_eq_true rfl⟩ hP hK [0, 4, 5, 6, 7] rfl 0 4 rfl rfl rfl rfl hl rfl (Nat.le_of_ble_eq_true rfl) dX5_weighs_54 ⟨Nat.le_of_ble_eq_true rfl, Nat.le_of_ble_eq_true rfl⟩) hS hA (fun locs hS => ?_)
        refine lv_istore_n (lv' := [(3, .int (nI (drk (f 5 t) (f 4 j9) (f 7 t) (k 5)))), (0, .ref (am 0)), (1, .int (nI t)), (2, .int (nI j9))]) hx hb dX5_weighs_57 rfl hl (by decide) rfl (fun ls hl => ?_)
        refine lv_aload_n hx hb dX5_weighs_58 rfl (lv_at hl 1 rfl) ?_
        refine lv_iload_n hx hb dX5_weighs_59 rfl (lv_at hl 2 rfl) ?_
        refine lv_iload_n hx hb dX5_weighs_60 rfl (lv_at hl 3 rfl) ?_
        refine lv_iload_n hx hb dX5_weighs_61 rfl (lv_at hl 0 rfl) ?_
        refine lv_iconst (v := nI (0)) hx hb dX5_weighs_62 (by decide) ?_
        refine wr_v (wrV_run (As := [.int (nI t), .int (nI j9), .int (nI (drk (f 5 t) (f 4 j9) (f 7 t) (k 5))), .int (nI 0)]) (rest := []) hx hb hml hown hts Tg_M (c_X5_know l D G _ am n f k g j tx fl hh kp tr q t j9 (drk (f 5 t) (f 4 j9) (f 7 t) (k 5)) 0 hI0 hM0 (by omega) (by omega)) lk_RX5_116 ⟨rfl, rfl, Nat.le_of_ble_eq_true rfl, Nat.le_of_ble_eq_true rfl⟩ hP hD hK [0, 8] rfl rfl 0 4 rfl rfl rfl rfl hl rfl (Nat.le_of_ble_eq_true rfl) dX5_weighs_63 ⟨Nat.le_of_ble_eq_true rfl, Nat.le_of_ble_eq_true rfl⟩) hP hD [0, 8] rfl (fun _ => rfl) hS hA (fun _ H locs _ hP hD hS => ?_)
        have hP : va_P D cls5 [(am 0, .inr (4, [.long (tr), .ref (am 1), .int (nI (j 0)), .ref (am 2), .ref (am 3), .ref (am 4), .ref (am 5), .ref (am 6), .ref (am 7), .ref (am 8), .ref (am 9), .int (nI (j 1)), .int (nI (j 2)), .int (nI (j 3)), .int (nI (j 4)), .int (fl), .int (bI (hh)), .ref (am 10), .ref (am 11), .ref (am 12), .int (nI (j 5))])), (am 2, .inl (G.1, 2, .inl (nF (g 2)))), (am 3, .inl (G.1, 10, .inl (nF (g 3)))), (am 4, .inl (G.1, 2, .inl (nF (g 4)))), (am 5, .inl (G.1, 12, .inl (nF (g 5)))), (am 6, .inl (G.1, 12, .inl (nF (g 6)))), (am 7, .inl (G.1, 12, .inl (nF (g 7)))), (am 8, .inl (G.1, 12, .inl (nF (g 8)))), (am 10, .inl (G.1, 240, .inl (nF (kn (g 10) (n 8) t (f 7 t) (k 5) j9 (drk (f 5 t) (f 4 j9) (f 7 t) (k 5)) 0))))] H := hP
        have hD : va_D A [(am 0, .inr (4, [.long (tr), .ref (am 1), .int (nI (j 0)), .ref (am 2), .ref (am 3), .ref (am 4), .ref (am 5), .ref (am 6), .ref (am 7), .ref (am 8), .ref (am 9), .int (nI (j 1)), .int (nI (j 2)), .int (nI (j 3)), .int (nI (j 4)), .int (fl), .int (bI (hh)), .ref (am 10), .ref (am 11), .ref (am 12), .int (nI (j 5))])), (am 2, .inl (G.1, 2, .inl (nF (g 2)))), (am 3, .inl (G.1, 10, .inl (nF (g 3)))), (am 4, .inl (G.1, 2, .inl (nF (g 4)))), (am 5, .inl (G.1, 12, .inl (nF (g 5)))), (am 6, .inl (G.1, 12, .inl (nF (g 6)))), (am 7, .inl (G.1, 12, .inl (nF (g 7)))), (am 8, .inl (G.1, 12, .inl (nF (g 8)))), (am 10, .inl (G.1, 240, .inl (nF (kn (g 10) (n 8) t (f 7 t) (k 5) j9 (drk (f 5 t) (f 4 j9) (f 7 t) (k 5)) 0))))] := hD
        refine lv_aload_n hx hb dX5_weighs_66 rfl (lv_at hl 1 rfl) ?_
        refine va_get (D := D) (ci := 4) (v := .ref (am 10)) (C := RX5) (T := TX5) (N := 21) hx hb hts (iX5) hown hK hP 0 rfl rfl 17 (by decide) (hts _ (List.mem_cons_of_mem _ wt_617)) (fun _ h9 => h9) rfl dX5_weighs_67 ?_
        refine lv_iload_n hx hb dX5_weighs_70 rfl (lv_at hl 2 rfl) ?_
        refine lv_dup2_11 hx hb dX5_weighs_71 rfl rfl ?_
        refine n_iald hx hb hK hP 8 (f := kn (g 10) (n 8) t (f 7 t) (k 5) j9 (drk (f 5 t) (f 4 j9) (f 7 t) (k 5)) 0) rfl (by omega) dX5_weighs_72 ?_
        refine n_tope (show nI ((kn (g 10) (n 8) t (f 7 t) (k 5) j9 (drk (f 5 t) (f 4 j9) (f 7 t) (k 5)) 0) t) = nI (f 7 t) from congrArg nI ((kn_lo (by omega)).trans ((m0 t (by omega)).trans (if_pos (by omega))))) ?_
        refine lv_iconst (v := nI (1)) hx hb dX5_weighs_73 (by decide) ?_
        refine n_iadd hx hb dX5_weighs_74 ?_
        refine n_iast hx hb hK hP hD hS 8 (f := kn (g 10) (n 8) t (f 7 t) (k 5) j9 (drk (f 5 t) (f 4 j9) (f 7 t) (k 5)) 0) rfl (by omega) dX5_weighs_75 (fun H locs hP hD hS => ?_)
        have hP : va_P D cls5 [(am 0, .inr (4, [.long (tr), .ref (am 1), .int (nI (j 0)), .ref (am 2), .ref (am 3), .ref (am 4), .ref (am 5), .ref (am 6), .ref (am 7), .ref (am 8), .ref (am 9), .int (nI (j 1)), .int (nI (j 2)), .int (nI (j 3)), .int (nI (j 4)), .int (fl), .int (bI (hh)), .ref (am 10), .ref (am 11), .ref (am 12), .int (nI (j 5))])), (am 2, .inl (G.1, 2, .inl (nF (g 2)))), (am 3, .inl (G.1, 10, .inl (nF (g 3)))), (am 4, .inl (G.1, 2, .inl (nF (g 4)))), (am 5, .inl (G.1, 12, .inl (nF (g 5)))), (am 6, .inl (G.1, 12, .inl (nF (g 6)))), (am 7, .inl (G.1, 12, .inl (nF (g 7)))), (am 8, .inl (G.1, 12, .inl (nF (g 8)))), (am 10, .inl (G.1, 240, .inl (nF (va_up (kn (g 10) (n 8) t (f 7 t) (k 5) j9 (drk (f 5 t) (f 4 j9) (f 7 t) (k 5)) 0) t ((f 7 t) + 1)))))] H := hP
        have hD : va_D A [(am 0, .inr (4, [.long (tr), .ref (am 1), .int (nI (j 0)), .ref (am 2), .ref (am 3), .ref (am 4), .ref (am 5), .ref (am 6), .ref (am 7), .ref (am 8), .ref (am 9), .int (nI (j 1)), .int (nI (j 2)), .int (nI (j 3)), .int (nI (j 4)), .int (fl), .int (bI (hh)), .ref (am 10), .ref (am 11), .ref (am 12), .int (nI (j 5))])), (am 2, .inl (G.1, 2, .inl (nF (g 2)))), (am 3, .inl (G.1, 10, .inl (nF (g 3)))), (am 4, .inl (G.1, 2, .inl (nF (g 4)))), (am 5, .inl (G.1, 12, .inl (nF (g 5)))), (am 6, .inl (G.1, 12, .inl (nF (g 6)))), (am 7, .inl (G.1, 12, .inl (nF (g 7)))), (am 8, .inl (G.1, 12, .inl (nF (g 8)))), (am 10, .inl (G.1, 240, .inl (nF (va_up (kn (g 10) (n 8) t (f 7 t) (k 5) j9 (drk (f 5 t) (f 4 j9) (f 7 t) (k 5)) 0) t ((f 7 t) + 1)))))] := hD
        refine lv_iload_n hx hb dX5_weighs_76 rfl (lv_at hl 0 rfl) ?_
        exact wr_iret (va_up (kn (g 10) (n 8) t (f 7 t) (k 5) j9 (drk (f 5 t) (f 4 j9) (f 7 t) (k 5)) 0) t ((f 7 t) + 1)) hx hb hr hlocks hAe hS dX5_weighs_77 (hP) (by simp only [spWeighs, e_t, e_j9, Option.elim, if_pos (show n 8 < 12 by omega)]; exact ⟨by trivial, reM_lick (reM_kn hN0 (by omega) _ _ _ _ _) h_t (by omega) _⟩)
      · refine lv_bipush (v := (-3)) hx hb dX5_weighs_30 (by decide) ?_
        exact wr_iret (g 10) hx hb hr hlocks hAe hS dX5_weighs_32 (hP) (by simp only [spWeighs, e_t, e_j9, Option.elim, if_neg (show ¬ n 8 < 12 by omega)]; exact ⟨by trivial, hN0⟩)
    · have e_j9 := ix_no c_13
      refine lv_iconst (v := (-1)) hx hb dX5_weighs_16 (by decide) ?_
      exact wr_iret (g 10) hx hb hr hlocks hAe hS dX5_weighs_17 (hP) (by simp only [spWeighs, e_t, e_j9, Option.elim]; exact ⟨by trivial, hN0⟩)

set_option maxHeartbeats 4000000 in
set_option maxRecDepth 100000 in
theorem c_X5_says (l : Launch) (D : va_G) (G : ClassId × ClassId × ClassId) (H0 : Heap) (am n : Nat → Nat) (f : Nat → Nat → Nat) (k : Nat → Nat) (g : Nat → Nat → Nat) (j : Nat → Nat) (tx : Nat → Int32) (fl : Int32) (hh : Bool) (kp : Nat → Bool) (tr : Int64) (q : Nat) (a a2 a3 : Int32) (hI : XI n f k q) (hM : RQ n f k g) : Met l yX5_says (wM yX5_says cX5_says 4 (some .int)) (rmD 4) (wP D G [.ref (am 0), .int (a), .int (a2), .int (a3)] [(am 0, .inr (4, [.long (tr), .ref (am 1), .int (nI (j 0)), .ref (am 2), .ref (am 3), .ref (am 4), .ref (am 5), .ref (am 6), .ref (am 7), .ref (am 8), .ref (am 9), .int (nI (j 1)), .int (nI (j 2)), .int (nI (j 3)), .int (nI (j 4)), .int (fl), .int (bI (hh)), .ref (am 10), .ref (am 11), .ref (am 12), .int (nI (j 5))])), (am 2, .inl (G.1, 2, .inl (nF (g 2)))), (am 4, .inl (G.1, 2, .inl (nF (g 4)))), (am 10, .inl (G.1, 240, .inl (nF (g 10))))] H0) (wQi (S := (Nat → Nat)) D (fun r u => r = (spSays n f k a a2 a3).1 ∧ reM (n 5) (g 10) u (f 7) (spSays n f k a a2 a3).2.1 (spSays n f k a a2 a3).2.2 (k 5)) [(am 0, .inr (4, [.long (tr), .ref (am 1), .int (nI (j 0)), .ref (am 2), .ref (am 3), .ref (am 4), .ref (am 5), .ref (am 6), .ref (am 7), .ref (am 8), .ref (am 9), .int (nI (j 1)), .int (nI (j 2)), .int (nI (j 3)), .int (nI (j 4)), .int (fl), .int (bI (hh)), .ref (am 10), .ref (am 11), .ref (am 12), .int (nI (j 5))])), (am 2, .inl (G.1, 2, .inl (nF (g 2)))), (am 4, .inl (G.1, 2, .inl (nF (g 4)))), (am 10, .inl (G.1, 240, .inl (nF (g 10))))] (fun u => [(am 0, .inr (4, [.long (tr), .ref (am 1), .int (nI (j 0)), .ref (am 2), .ref (am 3), .ref (am 4), .ref (am 5), .ref (am 6), .ref (am 7), .ref (am 8), .ref (am 9), .int (nI (j 1)), .int (nI (j 2)), .int (nI (j 3)), .int (nI (j 4)), .int (fl), .int (bI (hh)), .ref (am 10), .ref (am 11), .ref (am 12), .int (nI (j 5))])), (am 2, .inl (G.1, 2, .inl (nF (g 2)))), (am 4, .inl (G.1, 2, .inl (nF (g 4)))), (am 10, .inl (G.1, 240, .inl (nF (u))))]) H0) 0 0 (va_A [(am 0, .inr (4, [.long (tr), .ref (am 1), .int (nI (j 0)), .ref (am 2), .ref (am 3), .ref (am 4), .ref (am 5), .ref (am 6), .ref (am 7), .ref (am 8), .ref (am 9), .int (nI (j 1)), .int (nI (j 2)), .int (nI (j 3)), .int (nI (j 4)), .int (fl), .int (bI (hh)), .ref (am 10), .ref (am 11), .ref (am 12), .int (nI (j 5))])), (am 2, .inl (G.1, 2, .inl (nF (g 2)))), (am 4, .inl (G.1, 2, .inl (nF (g 4)))), (am 10, .inl (G.1, 240, .inl (nF (g 10))))] H0.size) := by
  refine wr_start (Qc := fun H0 => (wQi (S := (Nat → Nat)) D (fun r u => r = (spSays n f k a a2 a3).1 ∧ reM (n 5) (g 10) u (f 7) (spSays n f k a a2 a3).2.1 (spSays n f k a a2 a3).2.2 (k 5)) [(am 0, .inr (4, [.long (tr), .ref (am 1), .int (nI (j 0)), .ref (am 2), .ref (am 3), .ref (am 4), .ref (am 5), .ref (am 6), .ref (am 7), .ref (am 8), .ref (am 9), .int (nI (j 1)), .int (nI (j 2)), .int (nI (j 3)), .int (nI (j 4)), .int (fl), .int (bI (hh)), .ref (am 10), .ref (am 11), .ref (am 12), .int (nI (j 5))])), (am 2, .inl (G.1, 2, .inl (nF (g 2)))), (am 4, .inl (G.1, 2, .inl (nF (g 4)))), (am 10, .inl (G.1, 240, .inl (nF (g 10))))] (fun u => [(am 0, .inr (4, [.long (tr), .ref (am 1), .int (nI (j 0)), .ref (am 2), .ref (am 3), .ref (am 4), .ref (am 5), .ref (am 6), .ref (am 7), .ref (am 8), .ref (am 9), .int (nI (j 1)), .int (nI (j 2)), .int (nI (j 3)), .int (nI (j 4)), .int (fl), .int (bI (hh)), .ref (am 10), .ref (am 11), .ref (am 12), .int (nI (j 5))])), (am 2, .inl (G.1, 2, .inl (nF (g 2)))), (am 4, .inl (G.1, 2, .inl (nF (g 4)))), (am 10, .inl (G.1, 240, .inl (nF (u))))]) H0)) (by decide) (Nat.le_of_ble_eq_true rfl) ?_
  intro p e s m args below meth c hx hb hr hts hown hlocks hml hK A hAe hA hH0 ls hl H locs hP hD hS
  have hl : lv_has ls 4 [(0, .ref (am 0)), (1, .int (a)), (2, .int (a2)), (3, .int (a3))] := hl
  have hI0 := hI
  have hM0 := hM
  obtain ⟨i4, i5, i6, iq, iw, il, i7, i8, ih9, ik, iF⟩ := hI
  obtain ⟨m2, m3, m4, m5, m0, m6, m7, m8⟩ := hM
  have hN0 : reM (n 5) (g 10) (g 10) (f 7) (n 8) (f 8) (k 5) := ⟨hM0.2.2.2.2, fun _ _ => rfl⟩
  refine lv_aload_n hx hb dX5_says_0 rfl (lv_at hl 0 rfl) ?_
  refine lv_iload_n hx hb dX5_says_1 rfl (lv_at hl 1 rfl) ?_
  refine ro_i (roV_run (As := [.int (a)]) (rest := []) hx hb hml hown hts Tg_M (c_X5_isTaster l D G _ am n f k g j tx fl hh kp tr q (a) hI0 hM0) lk_RX5_109 ⟨rfl, rfl, Nat.le_of_ble_eq_true rfl, Nat.le_of_ble_eq_true rfl⟩ hP hK [0, 2] rfl 0 4 rfl rfl rfl rfl hl rfl (Nat.le_of_ble_eq_true rfl) dX5_says_2 ⟨Nat.le_of_ble_eq_true rfl, Nat.le_of_ble_eq_true rfl⟩) hS hA (fun locs hS => ?_)
  refine b_if_eq (tgt := 26) hx hb dX5_says_5 (by decide) (fun c_5 => ?_) (fun c_5 => ?_)
  · have e_t := ix_no c_5
    refine lv_iconst (v := (-1)) hx hb dX5_says_26 (by decide) ?_
    exact wr_iret (g 10) hx hb hr hlocks hAe hS dX5_says_27 (hP) (by simp only [spSays, e_t, Option.elim]; exact ⟨by trivial, hN0⟩)
  · obtain ⟨t, h_t, rfl⟩ := hasB_N (by omega) c_5
    have e_t := ix_yes h_t (show n 5 < 2 ^ 31 by omega)
    refine lv_aload_n hx hb dX5_says_8 rfl (lv_at hl 0 rfl) ?_
    refine lv_iload_n hx hb dX5_says_9 rfl (lv_at hl 2 rfl) ?_
    refine ro_i (roV_run (As := [.int (a2)]) (rest := []) hx hb hml hown hts Tg_M (c_X5_isLoad l D G _ am n f k g j tx fl hh kp tr q (a2) hI0 hM0) lk_RX5_105 ⟨rfl, rfl, Nat.le_of_ble_eq_true rfl, Nat.le_of_ble_eq_true rfl⟩ hP hK [0, 1] rfl 0 4 rfl rfl rfl rfl hl rfl (Nat.le_of_ble_eq_true rfl) dX5_says_10 ⟨Nat.le_of_ble_eq_true rfl, Nat.le_of_ble_eq_true rfl⟩) hS hA (fun locs hS => ?_)
    refine b_if_eq (tgt := 26) hx hb dX5_says_13 (by decide) (fun c_13 => ?_) (fun c_13 => ?_)
    · have e_j9 := ix_no c_13
      refine lv_iconst (v := (-1)) hx hb dX5_says_26 (by decide) ?_
      exact wr_iret (g 10) hx hb hr hlocks hAe hS dX5_says_27 (hP) (by simp only [spSays, e_t, e_j9, Option.elim]; exact ⟨by trivial, hN0⟩)
    · obtain ⟨j9, h_j9, rfl⟩ := hasB_N (by omega) c_13
      have e_j9 := ix_yes h_j9 (show n 4 < 2 ^ 31 by omega)
      refine lv_iload_n hx hb dX5_says_16 rfl (lv_at hl 3 rfl) ?_
      refine lv_iconst (v := nI (0)) hx hb dX5_says_17 (by decide) ?_
      refine lv_bipush (v := nI (99)) hx hb dX5_says_18 (by decide) ?_
      refine ro_i (roS_run (As := [.int (a3), .int (nI 0), .int (nI 99)]) (rest := []) hx hb hml hown hts Tg_M (c_X5_in l D G _ (a3) (nI (0)) (nI (99))) lk_RX5_52 ⟨rfl, rfl, Nat.le_of_ble_eq_true rfl, Nat.le_of_ble_eq_true rfl⟩ hP hK [] rfl rfl hl rfl (Nat.le_of_ble_eq_true rfl) dX5_says_20 ⟨Nat.le_of_ble_eq_true rfl, Nat.le_of_ble_eq_true rfl⟩) hS hA (fun locs hS => ?_)
      refine b_if_ne (tgt := 28) hx hb dX5_says_23 (by decide) (fun c_23 => ?_) (fun c_23 => ?_)
      · obtain ⟨cu, g_cu, h_cu, rfl⟩ := inR_N (by decide) (by decide) c_23
        have e_cu := ir_yes g_cu h_cu (by decide)
        refine lv_aload_n hx hb dX5_says_28 rfl (lv_at hl 0 rfl) ?_
        refine va_get (D := D) (ci := 4) (v := .ref (am 10)) (C := RX5) (T := TX5) (N := 21) hx hb hts (iX5) hown hK hP 0 rfl rfl 17 (by decide) (hts _ (List.mem_cons_of_mem _ wt_617)) (fun _ h9 => h9) rfl dX5_says_29 ?_
        refine lv_bipush (v := nI (7)) hx hb dX5_says_32 (by decide) ?_
        refine n_iald hx hb hK hP 3 (f := g 10) rfl (by omega) dX5_says_34 ?_
        refine n_tope (show nI (g 10 7) = nI (n 8) from congrArg nI (m7)) ?_
        refine lv_bipush (v := nI (12)) hx hb dX5_says_35 (by decide) ?_
        refine n_icmp_ne (tgt := 43) hx hb dX5_says_37 (by decide) (by omega) (by omega) (fun c_37 => ?_) (fun c_37 => ?_)
        · refine lv_aload_n hx hb dX5_says_43 rfl (lv_at hl 0 rfl) ?_
          refine lv_iload_n hx hb dX5_says_44 rfl (lv_at hl 1 rfl) ?_
          refine lv_iload_n hx hb dX5_says_45 rfl (lv_at hl 2 rfl) ?_
          refine lv_iload_n hx hb dX5_says_46 rfl (lv_at hl 3 rfl) ?_
          refine lv_iconst (v := nI (1)) hx hb dX5_says_47 (by decide) ?_
          refine wr_v (wrV_run (As := [.int (nI t), .int (nI j9), .int (nI cu), .int (nI 1)]) (rest := []) hx hb hml hown hts Tg_M (c_X5_know l D G _ am n f k g j tx fl hh kp tr q t j9 cu 1 hI0 hM0 (by omega) (by omega)) lk_RX5_116 ⟨rfl, rfl, Nat.le_of_ble_eq_true rfl, Nat.le_of_ble_eq_true rfl⟩ hP hD hK [0, 3] rfl rfl 0 4 rfl rfl rfl rfl hl rfl (Nat.le_of_ble_eq_true rfl) dX5_says_48 ⟨Nat.le_of_ble_eq_true rfl, Nat.le_of_ble_eq_true rfl⟩) hP hD [0, 3] rfl (fun _ => rfl) hS hA (fun _ H locs _ hP hD hS => ?_)
          have hP : va_P D cls5 [(am 0, .inr (4, [.long (tr), .ref (am 1), .int (nI (j 0)), .ref (am 2), .ref (am 3), .ref (am 4), .ref (am 5), .ref (am 6), .ref (am 7), .ref (am 8), .ref (am 9), .int (nI (j 1)), .int (nI (j 2)), .int (nI (j 3)), .int (nI (j 4)), .int (fl), .int (bI (hh)), .ref (am 10), .ref (am 11), .ref (am 12), .int (nI (j 5))])), (am 2, .inl (G.1, 2, .inl (nF (g 2)))), (am 4, .inl (G.1, 2, .inl (nF (g 4)))), (am 10, .inl (G.1, 240, .inl (nF (kn (g 10) (n 8) t (f 7 t) (k 5) j9 cu 1))))] H := hP
          have hD : va_D A [(am 0, .inr (4, [.long (tr), .ref (am 1), .int (nI (j 0)), .ref (am 2), .ref (am 3), .ref (am 4), .ref (am 5), .ref (am 6), .ref (am 7), .ref (am 8), .ref (am 9), .int (nI (j 1)), .int (nI (j 2)), .int (nI (j 3)), .int (nI (j 4)), .int (fl), .int (bI (hh)), .ref (am 10), .ref (am 11), .ref (am 12), .int (nI (j 5))])), (am 2, .inl (G.1, 2, .inl (nF (g 2)))), (am 4, .inl (G.1, 2, .inl (nF (g 4)))), (am 10, .inl (G.1, 240, .inl (nF (kn (g 10) (n 8) t (f 7 t) (k 5) j9 cu 1))))] := hD
          refine lv_aload_n hx hb dX5_says_51 rfl (lv_at hl 0 rfl) ?_
          refine va_get (D := D) (ci := 4) (v := .ref (am 10)) (C := RX5) (T := TX5) (N := 21) hx hb hts (iX5) hown hK hP 0 rfl rfl 17 (by decide) (hts _ (List.mem_cons_of_mem _ wt_617)) (fun _ h9 => h9) rfl dX5_says_52 ?_
          refine lv_bipush (v := nI (7)) hx hb dX5_says_55 (by decide) ?_
          refine n_iald hx hb hK hP 3 (f := kn (g 10) (n 8) t (f 7 t) (k 5) j9 cu 1) rfl (by omega) dX5_says_57 ?_
          refine n_tope (show nI ((kn (g 10) (n 8) t (f 7 t) (k 5) j9 cu 1) 7) = nI (n 8 + 1) from congrArg nI (by simp [kn, va_up])) ?_
          exact wr_iret (kn (g 10) (n 8) t (f 7 t) (k 5) j9 cu 1) hx hb hr hlocks hAe hS dX5_says_58 (hP) (by simp only [spSays, e_t, e_j9, e_cu, Option.elim, if_pos (show n 8 < 12 by omega)]; exact ⟨by trivial, reM_kn hN0 (by omega) _ _ _ _ _⟩)
        · refine lv_bipush (v := (-3)) hx hb dX5_says_40 (by decide) ?_
          exact wr_iret (g 10) hx hb hr hlocks hAe hS dX5_says_42 (hP) (by simp only [spSays, e_t, e_j9, e_cu, Option.elim, if_neg (show ¬ n 8 < 12 by omega)]; exact ⟨by trivial, hN0⟩)
      · have e_cu := ir_no c_23
        refine lv_iconst (v := (-1)) hx hb dX5_says_26 (by decide) ?_
        exact wr_iret (g 10) hx hb hr hlocks hAe hS dX5_says_27 (hP) (by simp only [spSays, e_t, e_j9, e_cu, Option.elim]; exact ⟨by trivial, hN0⟩)

set_option maxHeartbeats 4000000 in
set_option maxRecDepth 100000 in
theorem c_X5_jug (l : Launch) (D : va_G) (G : ClassId × ClassId × ClassId) (H0 : Heap) (am n : Nat → Nat) (f : Nat → Nat → Nat) (k : Nat → Nat) (g : Nat → Nat → Nat) (j : Nat → Nat) (tx : Nat → Int32) (fl : Int32) (hh : Bool) (kp : Nat → Bool) (tr : Int64) (q : Nat) (a a2 a3 a4 a5 : Int32) (hI : XI n f k q) (hM : RQ n f k g) : Met l yX5_jug (wM yX5_jug cX5_jug 8 (some .int)) (rmD 4) (wP D G [.ref (am 0), .int (a), .int (a2), .int (a3), .int (a4), .int (a5)] [(am 0, .inr (4, [.long (tr), .ref (am 1), .int (nI (j 0)), .ref (am 2), .ref (am 3), .ref (am 4), .ref (am 5), .ref (am 6), .ref (am 7), .ref (am 8), .ref (am 9), .int (nI (j 1)), .int (nI (j 2)), .int (nI (j 3)), .int (nI (j 4)), .int (fl), .int (bI (hh)), .ref (am 10), .ref (am 11), .ref (am 12), .int (nI (j 5))])), (am 2, .inl (G.1, 2, .inl (nF (g 2)))), (am 3, .inl (G.1, 10, .inl (nF (g 3)))), (am 4, .inl (G.1, 2, .inl (nF (g 4)))), (am 5, .inl (G.1, 12, .inl (nF (g 5)))), (am 6, .inl (G.1, 12, .inl (nF (g 6)))), (am 7, .inl (G.1, 12, .inl (nF (g 7)))), (am 8, .inl (G.1, 12, .inl (nF (g 8)))), (am 10, .inl (G.1, 240, .inl (nF (g 10))))] H0) (wQi (S := (Nat → Nat)) D (fun r u => r = (spJug n f k a a2 a3 a4 a5).1 ∧ reM (n 5) (g 10) u (spJug n f k a a2 a3 a4 a5).2 (n 8) (f 8) (k 5)) [(am 0, .inr (4, [.long (tr), .ref (am 1), .int (nI (j 0)), .ref (am 2), .ref (am 3), .ref (am 4), .ref (am 5), .ref (am 6), .ref (am 7), .ref (am 8), .ref (am 9), .int (nI (j 1)), .int (nI (j 2)), .int (nI (j 3)), .int (nI (j 4)), .int (fl), .int (bI (hh)), .ref (am 10), .ref (am 11), .ref (am 12), .int (nI (j 5))])), (am 2, .inl (G.1, 2, .inl (nF (g 2)))), (am 3, .inl (G.1, 10, .inl (nF (g 3)))), (am 4, .inl (G.1, 2, .inl (nF (g 4)))), (am 5, .inl (G.1, 12, .inl (nF (g 5)))), (am 6, .inl (G.1, 12, .inl (nF (g 6)))), (am 7, .inl (G.1, 12, .inl (nF (g 7)))), (am 8, .inl (G.1, 12, .inl (nF (g 8)))), (am 10, .inl (G.1, 240, .inl (nF (g 10))))] (fun u => [(am 0, .inr (4, [.long (tr), .ref (am 1), .int (nI (j 0)), .ref (am 2), .ref (am 3), .ref (am 4), .ref (am 5), .ref (am 6), .ref (am 7), .ref (am 8), .ref (am 9), .int (nI (j 1)), .int (nI (j 2)), .int (nI (j 3)), .int (nI (j 4)), .int (fl), .int (bI (hh)), .ref (am 10), .ref (am 11), .ref (am 12), .int (nI (j 5))])), (am 2, .inl (G.1, 2, .inl (nF (g 2)))), (am 3, .inl (G.1, 10, .inl (nF (g 3)))), (am 4, .inl (G.1, 2, .inl (nF (g 4)))), (am 5, .inl (G.1, 12, .inl (nF (g 5)))), (am 6, .inl (G.1, 12, .inl (nF (g 6)))), (am 7, .inl (G.1, 12, .inl (nF (g 7)))), (am 8, .inl (G.1, 12, .inl (nF (g 8)))), (am 10, .inl (G.1, 240, .inl (nF (u))))]) H0) 0 0 (va_A [(am 0, .inr (4, [.long (tr), .ref (am 1), .int (nI (j 0)), .ref (am 2), .ref (am 3), .ref (am 4), .ref (am 5), .ref (am 6), .ref (am 7), .ref (am 8), .ref (am 9), .int (nI (j 1)), .int (nI (j 2)), .int (nI (j 3)), .int (nI (j 4)), .int (fl), .int (bI (hh)), .ref (am 10), .ref (am 11), .ref (am 12), .int (nI (j 5))])), (am 2, .inl (G.1, 2, .inl (nF (g 2)))), (am 3, .inl (G.1, 10, .inl (nF (g 3)))), (am 4, .inl (G.1, 2, .inl (nF (g 4)))), (am 5, .inl (G.1, 12, .inl (nF (g 5)))), (am 6, .inl (G.1, 12, .inl (nF (g 6)))), (am 7, .inl (G.1, 12, .inl (nF (g 7)))), (am 8, .inl (G.1, 12, .inl (nF (g 8)))), (am 10, .inl (G.1, 240, .inl (nF (g 10))))] H0.size) := by
  refine wr_start (Qc := fun H0 => (wQi (S := (Nat → Nat)) D (fun r u => r = (spJug n f k a a2 a3 a4 a5).1 ∧ reM (n 5) (g 10) u (spJug n f k a a2 a3 a4 a5).2 (n 8) (f 8) (k 5)) [(am 0, .inr (4, [.long (tr), .ref (am 1), .int (nI (j 0)), .ref (am 2), .ref (am 3), .ref (am 4), .ref (am 5), .ref (am 6), .ref (am 7), .ref (am 8), .ref (am 9), .int (nI (j 1)), .int (nI (j 2)), .int (nI (j 3)), .int (nI (j 4)), .int (fl), .int (bI (hh)), .ref (am 10), .ref (am 11), .ref (am 12), .int (nI (j 5))])), (am 2, .inl (G.1, 2, .inl (nF (g 2)))), (am 3, .inl (G.1, 10, .inl (nF (g 3)))), (am 4, .inl (G.1, 2, .inl (nF (g 4)))), (am 5, .inl (G.1, 12, .inl (nF (g 5)))), (am 6, .inl (G.1, 12, .inl (nF (g 6)))), (am 7, .inl (G.1, 12, .inl (nF (g 7)))), (am 8, .inl (G.1, 12, .inl (nF (g 8)))), (am 10, .inl (G.1, 240, .inl (nF (g 10))))] (fun u => [(am 0, .inr (4, [.long (tr), .ref (am 1), .int (nI (j 0)), .ref (am 2), .ref (am 3), .ref (am 4), .ref (am 5), .ref (am 6), .ref (am 7), .ref (am 8), .ref (am 9), .int (nI (j 1)), .int (nI (j 2)), .int (nI (j 3)), .int (nI (j 4)), .int (fl), .int (bI (hh)), .ref (am 10), .ref (am 11), .ref (am 12), .int (nI (j 5))])), (am 2, .inl (G.1, 2, .inl (nF (g 2)))), (am 3, .inl (G.1, 10, .inl (nF (g 3)))), (am 4, .inl (G.1, 2, .inl (nF (g 4)))), (am 5, .inl (G.1, 12, .inl (nF (g 5)))), (am 6, .inl (G.1, 12, .inl (nF (g 6)))), (am 7, .inl (G.1, 12, .inl (nF (g 7)))), (am 8, .inl (G.1, 12, .inl (nF (g 8)))), (am 10, .inl (G.1, 240, .inl (nF (u))))]) H0)) (by decide) (Nat.le_of_ble_eq_true rfl) ?_
  intro p e s m args below meth c hx hb hr hts hown hlocks hml hK A hAe hA hH0 ls hl H locs hP hD hS
  have hl : lv_has ls 8 [(0, .ref (am 0)), (1, .int (a)), (2, .int (a2)), (3, .int (a3)), (4, .int (a4)), (5, .int (a5))] := hl
  have hI0 := hI
  have hM0 := hM
  obtain ⟨i4, i5, i6, iq, iw, il, i7, i8, ih9, ik, iF⟩ := hI
  obtain ⟨m2, m3, m4, m5, m0, m6, m7, m8⟩ := hM
  have hN0 : reM (n 5) (g 10) (g 10) (f 7) (n 8) (f 8) (k 5) := ⟨hM0.2.2.2.2, fun _ _ => rfl⟩
  refine lv_aload_n hx hb dX5_jug_0 rfl (lv_at hl 0 rfl) ?_
  refine lv_iload_n hx hb dX5_jug_1 rfl (lv_at hl 1 rfl) ?_
  refine ro_i (roV_run (As := [.int (a)]) (rest := []) hx hb hml hown hts Tg_M (c_X5_isTaster l D G _ am n f k g j tx fl hh kp tr q (a) hI0 hM0) lk_RX5_109 ⟨rfl, rfl, Nat.le_of_ble_eq_true rfl, Nat.le_of_ble_eq_true rfl⟩ hP hK [0, 3] rfl 0 4 rfl rfl rfl rfl hl rfl (Nat.le_of_ble_eq_true rfl) dX5_jug_2 ⟨Nat.le_of_ble_eq_true rfl, Nat.le_of_ble_eq_true rfl⟩) hS hA (fun locs hS => ?_)
  refine b_if_eq (tgt := 51) hx hb dX5_jug_5 (by decide) (fun c_5 => ?_) (fun c_5 => ?_)
  · have e_t := ix_no c_5
    refine lv_iconst (v := (-1)) hx hb dX5_jug_51 (by decide) ?_
    exact wr_iret (g 10) hx hb hr hlocks hAe hS dX5_jug_52 (hP) (by simp only [spJug, e_t, Option.elim]; exact ⟨by trivial, hN0⟩)
  · obtain ⟨t, h_t, rfl⟩ := hasB_N (by omega) c_5
    have e_t := ix_yes h_t (show n 5 < 2 ^ 31 by omega)
    refine lv_aload_n hx hb dX5_jug_8 rfl (lv_at hl 0 rfl) ?_
    refine lv_iload_n hx hb dX5_jug_9 rfl (lv_at hl 2 rfl) ?_
    refine ro_i (roV_run (As := [.int (a2)]) (rest := []) hx hb hml hown hts Tg_M (c_X5_isTaster l D G _ am n f k g j tx fl hh kp tr q (a2) hI0 hM0) lk_RX5_109 ⟨rfl, rfl, Nat.le_of_ble_eq_true rfl, Nat.le_of_ble_eq_true rfl⟩ hP hK [0, 3] rfl 0 4 rfl rfl rfl rfl hl rfl (Nat.le_of_ble_eq_true rfl) dX5_jug_10 ⟨Nat.le_of_ble_eq_true rfl, Nat.le_of_ble_eq_true rfl⟩) hS hA (fun locs hS => ?_)
    refine b_if_eq (tgt := 51) hx hb dX5_jug_13 (by decide) (fun c_13 => ?_) (fun c_13 => ?_)
    · have e_u := ix_no c_13
      refine lv_iconst (v := (-1)) hx hb dX5_jug_51 (by decide) ?_
      exact wr_iret (g 10) hx hb hr hlocks hAe hS dX5_jug_52 (hP) (by simp only [spJug, e_t, e_u, Option.elim]; exact ⟨by trivial, hN0⟩)
    · obtain ⟨u, h_u, rfl⟩ := hasB_N (by omega) c_13
      have e_u := ix_yes h_u (show n 5 < 2 ^ 31 by omega)
      refine lv_iload_n hx hb dX5_jug_16 rfl (lv_at hl 1 rfl) ?_
      refine lv_iload_n hx hb dX5_jug_17 rfl (lv_at hl 2 rfl) ?_
      refine n_icmp_eq (tgt := 51) hx hb dX5_jug_18 (by decide) (by omega) (by omega) (fun c_18 => ?_) (fun c_18 => ?_)
      · refine lv_iconst (v := (-1)) hx hb dX5_jug_51 (by decide) ?_
        exact wr_iret (g 10) hx hb hr hlocks hAe hS dX5_jug_52 (hP) (by simp only [spJug, e_t, e_u, Option.elim, if_pos c_18]; exact ⟨by trivial, hN0⟩)
      · refine lv_aload_n hx hb dX5_jug_21 rfl (lv_at hl 0 rfl) ?_
        refine lv_iload_n hx hb dX5_jug_22 rfl (lv_at hl 3 rfl) ?_
        refine ro_i (roV_run (As := [.int (a3)]) (rest := []) hx hb hml hown hts Tg_M (c_X5_isLoad l D G _ am n f k g j tx fl hh kp tr q (a3) hI0 hM0) lk_RX5_105 ⟨rfl, rfl, Nat.le_of_ble_eq_true rfl, Nat.le_of_ble_eq_true rfl⟩ hP hK [0, 1] rfl 0 4 rfl rfl rfl rfl hl rfl (Nat.le_of_ble_eq_true rfl) dX5_jug_23 ⟨Nat.le_of_ble_eq_true rfl, Nat.le_of_ble_eq_true rfl⟩) hS hA (fun locs hS => ?_)
        refine b_if_eq (tgt := 51) hx hb dX5_jug_26 (by decide) (fun c_26 => ?_) (fun c_26 => ?_)
        · have e_j9 := ix_no c_26
          refine lv_iconst (v := (-1)) hx hb dX5_jug_51 (by decide) ?_
          exact wr_iret (g 10) hx hb hr hlocks hAe hS dX5_jug_52 (hP) (by simp only [spJug, e_t, e_u, e_j9, Option.elim, if_neg c_18]; exact ⟨by trivial, hN0⟩)
        · obtain ⟨j9, h_j9, rfl⟩ := hasB_N (by omega) c_26
          have e_j9 := ix_yes h_j9 (show n 4 < 2 ^ 31 by omega)
          refine lv_iload hx hb dX5_jug_29 (lv_at hl 4 rfl) ?_
          refine lv_iconst (v := nI (0)) hx hb dX5_jug_31 (by decide) ?_
          refine lv_sipush (v := nI (999)) hx hb dX5_jug_32 (by decide) ?_
          refine ro_i (roS_run (As := [.int (a4), .int (nI 0), .int (nI 999)]) (rest := []) hx hb hml hown hts Tg_M (c_X5_in l D G _ (a4) (nI (0)) (nI (999))) lk_RX5_52 ⟨rfl, rfl, Nat.le_of_ble_eq_true rfl, Nat.le_of_ble_eq_true rfl⟩ hP hK [] rfl rfl hl rfl (Nat.le_of_ble_eq_true rfl) dX5_jug_35 ⟨Nat.le_of_ble_eq_true rfl, Nat.le_of_ble_eq_true rfl⟩) hS hA (fun locs hS => ?_)
          refine b_if_eq (tgt := 51) hx hb dX5_jug_38 (by decide) (fun c_38 => ?_) (fun c_38 => ?_)
          · have e_c9 := ir_no c_38
            refine lv_iconst (v := (-1)) hx hb dX5_jug_51 (by decide) ?_
            exact wr_iret (g 10) hx hb hr hlocks hAe hS dX5_jug_52 (hP) (by simp only [spJug, e_t, e_u, e_j9, e_c9, Option.elim, if_neg c_18]; exact ⟨by trivial, hN0⟩)
          · obtain ⟨c9, g_c9, h_c9, rfl⟩ := inR_N (by decide) (by decide) c_38
            have e_c9 := ir_yes g_c9 h_c9 (by decide)
            refine lv_iload hx hb dX5_jug_41 (lv_at hl 5 rfl) ?_
            refine lv_iconst (v := nI (0)) hx hb dX5_jug_43 (by decide) ?_
            refine lv_iconst (v := nI (1)) hx hb dX5_jug_44 (by decide) ?_
            refine ro_i (roS_run (As := [.int (a5), .int (nI 0), .int (nI 1)]) (rest := []) hx hb hml hown hts Tg_M (c_X5_in l D G _ (a5) (nI (0)) (nI (1))) lk_RX5_52 ⟨rfl, rfl, Nat.le_of_ble_eq_true rfl, Nat.le_of_ble_eq_true rfl⟩ hP hK [] rfl rfl hl rfl (Nat.le_of_ble_eq_true rfl) dX5_jug_45 ⟨Nat.le_of_ble_eq_true rfl, Nat.le_of_ble_eq_true rfl⟩) hS hA (fun locs hS => ?_)
            refine b_if_ne (tgt := 53) hx hb dX5_jug_48 (by decide) (fun c_48 => ?_) (fun c_48 => ?_)
            · obtain ⟨w, g_w, h_w, rfl⟩ := inR_N (by decide) (by decide) c_48
              have e_w := ir_yes g_w h_w (by decide)
              have e1 := il t h_t
              have e2 := il u h_u
              have e3 := iw j9 h_j9
              have e4 := ik t h_t
              have e5 := ik u h_u
              have d1 := drk_lt e1 e3 (show f 7 t ≤ 4096 by omega) ih9
              have d2 := drk_lt e2 e3 (show f 7 u ≤ 4096 by omega) ih9
              refine lv_aload_n hx hb dX5_jug_53 rfl (lv_at hl 0 rfl) ?_
              refine lv_iload_n hx hb dX5_jug_54 rfl (lv_at hl 1 rfl) ?_
              refine lv_aload_n hx hb dX5_jug_55 rfl (lv_at hl 0 rfl) ?_
              refine va_get (D := D) (ci := 4) (v := .ref (am 3)) (C := RX5) (T := TX5) (N := 21) hx hb hts (iX5) hown hK hP 0 rfl rfl 4 (by decide) (hts _ (List.mem_cons_of_mem _ wt_604)) (fun _ h9 => h9) rfl dX5_jug_56 ?_
              refine lv_iload_n hx hb dX5_jug_59 rfl (lv_at hl 3 rfl) ?_
              refine n_iald hx hb hK hP 2 (f := g 3) rfl (by omega) dX5_jug_60 ?_
              refine n_tope (show nI (g 3 j9) = nI (f 4 j9) from congrArg nI (m3 _ (by omega))) ?_
              refine lv_aload_n hx hb dX5_jug_61 rfl (lv_at hl 0 rfl) ?_
              refine va_get (D := D) (ci := 4) (v := .ref (am 10)) (C := RX5) (T := TX5) (N := 21) hx hb hts (iX5) hown hK hP 0 rfl rfl 17 (by decide) (hts _ (List.mem_cons_of_mem _ wt_617)) (fun _ h9 => h9) rfl dX5_jug_62 ?_
              refine lv_iload_n hx hb dX5_jug_65 rfl (lv_at hl 1 rfl) ?_
              refine n_iald hx hb hK hP 8 (f := g 10) rfl (by omega) dX5_jug_66 ?_
              refine n_tope (show nI (g 10 t) = nI (f 7 t) from congrArg nI ((m0 t (by omega)).trans (if_pos (by omega)))) ?_
              refine lv_aload_n hx hb dX5_jug_67 rfl (lv_at hl 0 rfl) ?_
              refine va_get (D := D) (ci := 4) (v := .ref (am 10)) (C := RX5) (T := TX5) (N := 21) hx hb hts (iX5) hown hK hP 0 rfl rfl 17 (by decide) (hts _ (List.mem_cons_of_mem _ wt_617)) (fun _ h9 => h9) rfl dX5_jug_68 ?_
              refine lv_bipush (v := nI (6)) hx hb dX5_jug_71 (by decide) ?_
              refine n_iald hx hb hK hP 8 (f := g 10) rfl (by omega) dX5_jug_73 ?_
              refine n_tope (show nI (g 10 6) = nI (k 5) from congrArg nI (m6)) ?_
              refine ro_i (roV_run (As := [.int (nI t), .int (nI (f 4 j9)), .int (nI (f 7 t)), .int (nI (k 5))]) (rest := []) hx hb hml hown hts Tg_M (c_X5_cupsOf l D G _ am n f k g j tx fl hh kp tr t (f 4 j9) (f 7 t) (k 5) (by omega) il m5 (by omega) (by omega) (by omega) (by omega)) lk_RX5_112 ⟨rfl, rfl, Nat.le_of_ble_eq_true rfl, Nat.le_of_ble_eq_true rfl⟩ hP hK [0, 4, 5, 6, 7] rfl 0 4 rfl rfl rfl rfl hl rfl (Nat.le_of_ble_eq_true rfl) dX5_jug_74 ⟨Nat.le_of_ble_eq_true rfl, Nat.le_of_ble_eq_true rfl⟩) hS hA (fun locs hS => ?_)
              refine lv_istore (lv' := [(6, .int (nI (drk (f 5 t) (f 4 j9) (f 7 t) (k 5)))), (0, .ref (am 0)), (1, .int (nI t)), (2, .int (nI u)), (3, .int (nI j9)), (4, .int (nI c9)), (5, .int (nI w))]) hx hb dX5_jug_77 hl (by decide) rfl (fun ls hl => ?_)
              refine lv_iload hx hb dX5_jug_79 (lv_at hl 0 rfl) ?_
              refine lv_iload hx hb dX5_jug_81 (lv_at hl 5 rfl) ?_
              refine n_icmp_le (tgt := 91) hx hb dX5_jug_83 (by decide) (by omega) (by omega) (fun c_83 => ?_) (fun c_83 => ?_)
              · refine lv_iload hx hb dX5_jug_91 (lv_at hl 0 rfl) ?_
                refine n_tope (show nI (drk (f 5 t) (f 4 j9) (f 7 t) (k 5)) = nI (Nat.min (drk (f 5 t) (f 4 j9) (f 7 t) (k 5)) c9) from congrArg nI ((Nat.min_eq_left (by omega)).symm)) ?_
                have m1 : Nat.min (drk (f 5 t) (f 4 j9) (f 7 t) (k 5)) c9 ≤ c9 := Nat.min_le_right _ _
                refine lv_istore (lv' := [(6, .int (nI (Nat.min (drk (f 5 t) (f 4 j9) (f 7 t) (k 5)) c9))), (0, .ref (am 0)), (1, .int (nI t)), (2, .int (nI u)), (3, .int (nI j9)), (4, .int (nI c9)), (5, .int (nI w))]) hx hb dX5_jug_93 hl (by decide) rfl (fun ls hl => ?_)
                refine lv_aload_n hx hb dX5_jug_95 rfl (lv_at hl 1 rfl) ?_
                refine lv_iload_n hx hb dX5_jug_96 rfl (lv_at hl 3 rfl) ?_
                refine lv_aload_n hx hb dX5_jug_97 rfl (lv_at hl 1 rfl) ?_
                refine va_get (D := D) (ci := 4) (v := .ref (am 3)) (C := RX5) (T := TX5) (N := 21) hx hb hts (iX5) hown hK hP 0 rfl rfl 4 (by decide) (hts _ (List.mem_cons_of_mem _ wt_604)) (fun _ h9 => h9) rfl dX5_jug_98 ?_
                refine lv_iload_n hx hb dX5_jug_101 rfl (lv_at hl 4 rfl) ?_
                refine n_iald hx hb hK hP 2 (f := g 3) rfl (by omega) dX5_jug_102 ?_
                refine n_tope (show nI (g 3 j9) = nI (f 4 j9) from congrArg nI (m3 _ (by omega))) ?_
                refine lv_aload_n hx hb dX5_jug_103 rfl (lv_at hl 1 rfl) ?_
                refine va_get (D := D) (ci := 4) (v := .ref (am 10)) (C := RX5) (T := TX5) (N := 21) hx hb hts (iX5) hown hK hP 0 rfl rfl 17 (by decide) (hts _ (List.mem_cons_of_mem _ wt_617)) (fun _ h9 => h9) rfl dX5_jug_104 ?_
                refine lv_iload_n hx hb dX5_jug_107 rfl (lv_at hl 3 rfl) ?_
                refine n_iald hx hb hK hP 8 (f := g 10) rfl (by omega) dX5_jug_108 ?_
                refine n_tope (show nI (g 10 u) = nI (f 7 u) from congrArg nI ((m0 u (by omega)).trans (if_pos (by omega)))) ?_
                refine lv_aload_n hx hb dX5_jug_109 rfl (lv_at hl 1 rfl) ?_
                refine va_get (D := D) (ci := 4) (v := .ref (am 10)) (C := RX5) (T := TX5) (N := 21) hx hb hts (iX5) hown hK hP 0 rfl rfl 17 (by decide) (hts _ (List.mem_cons_of_mem _ wt_617)) (fun _ h9 => h9) rfl dX5_jug_110 ?_
                refine lv_bipush (v := nI (6)) hx hb dX5_jug_113 (by decide) ?_
                refine n_iald hx hb hK hP 8 (f := g 10) rfl (by omega) dX5_jug_115 ?_
                refine n_tope (show nI (g 10 6) = nI (k 5) from congrArg nI (m6)) ?_
                refine ro_i (roV_run (As := [.int (nI u), .int (nI (f 4 j9)), .int (nI (f 7 u)), .int (nI (k 5))]) (rest := []) hx hb hml hown hts Tg_M (c_X5_cupsOf l D G _ am n f k g j tx fl hh kp tr u (f 4 j9) (f 7 u) (k 5) (by omega) il m5 (by omega) (by omega) (by omega) (by omega)) lk_RX5_112 ⟨rfl, rfl, Nat.le_of_ble_eq_true rfl, Nat.le_of_ble_eq_true rfl⟩ hP hK [0, 4, 5, 6, 7] rfl 0 4 rfl rfl rfl rfl hl rfl (Nat.le_of_ble_eq_true rfl) dX5_jug_116 ⟨Nat.le_of_ble_eq_true rfl, Nat.le_of_ble_eq_true rfl⟩) hS hA (fun locs hS => ?_)
                refine lv_istore (lv' := [(7, .int (nI (drk (f 5 u) (f 4 j9) (f 7 u) (k 5)))), (6, .int (nI (Nat.min (drk (f 5 t) (f 4 j9) (f 7 t) (k 5)) c9))), (0, .ref (am 0)), (1, .int (nI t)), (2, .int (nI u)), (3, .int (nI j9)), (4, .int (nI c9)), (5, .int (nI w))]) hx hb dX5_jug_119 hl (by decide) rfl (fun ls hl => ?_)
                refine lv_iload hx hb dX5_jug_121 (lv_at hl 0 rfl) ?_
                refine lv_iload hx hb dX5_jug_123 (lv_at hl 6 rfl) ?_
                refine lv_iload hx hb dX5_jug_125 (lv_at hl 1 rfl) ?_
                refine n_isub hx hb dX5_jug_127 (by omega) ?_
                refine n_icmp_le (tgt := 139) hx hb dX5_jug_128 (by decide) (by omega) (by omega) (fun c_128 => ?_) (fun c_128 => ?_)
                · refine lv_iload hx hb dX5_jug_139 (lv_at hl 0 rfl) ?_
                  refine n_tope (show nI (drk (f 5 u) (f 4 j9) (f 7 u) (k 5)) = nI (Nat.min (drk (f 5 u) (f 4 j9) (f 7 u) (k 5)) (c9 - Nat.min (drk (f 5 t) (f 4 j9) (f 7 t) (k 5)) c9)) from congrArg nI ((Nat.min_eq_left (by omega)).symm)) ?_
                  refine lv_istore (lv' := [(7, .int (nI (Nat.min (drk (f 5 u) (f 4 j9) (f 7 u) (k 5)) (c9 - Nat.min (drk (f 5 t) (f 4 j9) (f 7 t) (k 5)) c9)))), (6, .int (nI (Nat.min (drk (f 5 t) (f 4 j9) (f 7 t) (k 5)) c9))), (0, .ref (am 0)), (1, .int (nI t)), (2, .int (nI u)), (3, .int (nI j9)), (4, .int (nI c9)), (5, .int (nI w))]) hx hb dX5_jug_141 hl (by decide) rfl (fun ls hl => ?_)
                  refine lv_aload_n hx hb dX5_jug_143 rfl (lv_at hl 2 rfl) ?_
                  refine va_get (D := D) (ci := 4) (v := .ref (am 10)) (C := RX5) (T := TX5) (N := 21) hx hb hts (iX5) hown hK hP 0 rfl rfl 17 (by decide) (hts _ (List.mem_cons_of_mem _ wt_617)) (fun _ h9 => h9) rfl dX5_jug_144 ?_
                  refine lv_iload_n hx hb dX5_jug_147 rfl (lv_at hl 3 rfl) ?_
                  refine lv_dup2_11 hx hb dX5_jug_148 rfl rfl ?_
                  refine n_iald hx hb hK hP 8 (f := g 10) rfl (by omega) dX5_jug_149 ?_
                  refine n_tope (show nI (g 10 t) = nI (f 7 t) from congrArg nI ((m0 t (by omega)).trans (if_pos (by omega)))) ?_
                  refine lv_iconst (v := nI (1)) hx hb dX5_jug_150 (by decide) ?_
                  refine n_iadd hx hb dX5_jug_151 ?_
                  refine n_iast hx hb hK hP hD hS 8 (f := g 10) rfl (by omega) dX5_jug_152 (fun H locs hP hD hS => ?_)
                  have hP : va_P D cls5 [(am 0, .inr (4, [.long (tr), .ref (am 1), .int (nI (j 0)), .ref (am 2), .ref (am 3), .ref (am 4), .ref (am 5), .ref (am 6), .ref (am 7), .ref (am 8), .ref (am 9), .int (nI (j 1)), .int (nI (j 2)), .int (nI (j 3)), .int (nI (j 4)), .int (fl), .int (bI (hh)), .ref (am 10), .ref (am 11), .ref (am 12), .int (nI (j 5))])), (am 2, .inl (G.1, 2, .inl (nF (g 2)))), (am 3, .inl (G.1, 10, .inl (nF (g 3)))), (am 4, .inl (G.1, 2, .inl (nF (g 4)))), (am 5, .inl (G.1, 12, .inl (nF (g 5)))), (am 6, .inl (G.1, 12, .inl (nF (g 6)))), (am 7, .inl (G.1, 12, .inl (nF (g 7)))), (am 8, .inl (G.1, 12, .inl (nF (g 8)))), (am 10, .inl (G.1, 240, .inl (nF (va_up (g 10) t ((f 7 t) + 1)))))] H := hP
                  have hD : va_D A [(am 0, .inr (4, [.long (tr), .ref (am 1), .int (nI (j 0)), .ref (am 2), .ref (am 3), .ref (am 4), .ref (am 5), .ref (am 6), .ref (am 7), .ref (am 8), .ref (am 9), .int (nI (j 1)), .int (nI (j 2)), .int (nI (j 3)), .int (nI (j 4)), .int (fl), .int (bI (hh)), .ref (am 10), .ref (am 11), .ref (am 12), .int (nI (j 5))])), (am 2, .inl (G.1, 2, .inl (nF (g 2)))), (am 3, .inl (G.1, 10, .inl (nF (g 3)))), (am 4, .inl (G.1, 2, .inl (nF (g 4)))), (am 5, .inl (G.1, 12, .inl (nF (g 5)))), (am 6, .inl (G.1, 12, .inl (nF (g 6)))), (am 7, .inl (G.1, 12, .inl (nF (g 7)))), (am 8, .inl (G.1, 12, .inl (nF (g 8)))), (am 10, .inl (G.1, 240, .inl (nF (va_up (g 10) t ((f 7 t) + 1)))))] := hD
                  refine lv_aload_n hx hb dX5_jug_153 rfl (lv_at hl 2 rfl) ?_
                  refine va_get (D := D) (ci := 4) (v := .ref (am 10)) (C := RX5) (T := TX5) (N := 21) hx hb hts (iX5) hown hK hP 0 rfl rfl 17 (by decide) (hts _ (List.mem_cons_of_mem _ wt_617)) (fun _ h9 => h9) rfl dX5_jug_154 ?_
                  refine lv_iload_n hx hb dX5_jug_157 rfl (lv_at hl 4 rfl) ?_
                  refine lv_dup2_11 hx hb dX5_jug_158 rfl rfl ?_
                  refine n_iald hx hb hK hP 8 (f := va_up (g 10) t ((f 7 t) + 1)) rfl (by omega) dX5_jug_159 ?_
                  refine n_tope (show nI ((va_up (g 10) t ((f 7 t) + 1)) u) = nI (f 7 u) from congrArg nI ((upn (by simp only [va_up]; repeat (rw [if_neg (by omega)]))).trans ((m0 u (by omega)).trans (if_pos (by omega))))) ?_
                  refine lv_iconst (v := nI (1)) hx hb dX5_jug_160 (by decide) ?_
                  refine n_iadd hx hb dX5_jug_161 ?_
                  refine n_iast hx hb hK hP hD hS 8 (f := va_up (g 10) t ((f 7 t) + 1)) rfl (by omega) dX5_jug_162 (fun H locs hP hD hS => ?_)
                  have hP : va_P D cls5 [(am 0, .inr (4, [.long (tr), .ref (am 1), .int (nI (j 0)), .ref (am 2), .ref (am 3), .ref (am 4), .ref (am 5), .ref (am 6), .ref (am 7), .ref (am 8), .ref (am 9), .int (nI (j 1)), .int (nI (j 2)), .int (nI (j 3)), .int (nI (j 4)), .int (fl), .int (bI (hh)), .ref (am 10), .ref (am 11), .ref (am 12), .int (nI (j 5))])), (am 2, .inl (G.1, 2, .inl (nF (g 2)))), (am 3, .inl (G.1, 10, .inl (nF (g 3)))), (am 4, .inl (G.1, 2, .inl (nF (g 4)))), (am 5, .inl (G.1, 12, .inl (nF (g 5)))), (am 6, .inl (G.1, 12, .inl (nF (g 6)))), (am 7, .inl (G.1, 12, .inl (nF (g 7)))), (am 8, .inl (G.1, 12, .inl (nF (g 8)))), (am 10, .inl (G.1, 240, .inl (nF (va_up (va_up (g 10) t ((f 7 t) + 1)) u ((f 7 u) + 1)))))] H := hP
                  have hD : va_D A [(am 0, .inr (4, [.long (tr), .ref (am 1), .int (nI (j 0)), .ref (am 2), .ref (am 3), .ref (am 4), .ref (am 5), .ref (am 6), .ref (am 7), .ref (am 8), .ref (am 9), .int (nI (j 1)), .int (nI (j 2)), .int (nI (j 3)), .int (nI (j 4)), .int (fl), .int (bI (hh)), .ref (am 10), .ref (am 11), .ref (am 12), .int (nI (j 5))])), (am 2, .inl (G.1, 2, .inl (nF (g 2)))), (am 3, .inl (G.1, 10, .inl (nF (g 3)))), (am 4, .inl (G.1, 2, .inl (nF (g 4)))), (am 5, .inl (G.1, 12, .inl (nF (g 5)))), (am 6, .inl (G.1, 12, .inl (nF (g 6)))), (am 7, .inl (G.1, 12, .inl (nF (g 7)))), (am 8, .inl (G.1, 12, .inl (nF (g 8)))), (am 10, .inl (G.1, 240, .inl (nF (va_up (va_up (g 10) t ((f 7 t) + 1)) u ((f 7 u) + 1)))))] := hD
                  refine lv_iload hx hb dX5_jug_163 (lv_at hl 7 rfl) ?_
                  refine n_if_ne (tgt := 176) hx hb dX5_jug_165 (by decide) (by omega) (fun c_165 => ?_) (fun c_165 => ?_)
                  · refine lv_iload hx hb dX5_jug_176 (lv_at hl 0 rfl) ?_
                    exact wr_iret (va_up (va_up (g 10) t ((f 7 t) + 1)) u ((f 7 u) + 1)) hx hb hr hlocks hAe hS dX5_jug_178 (hP) (by simp only [spJug, e_t, e_u, e_j9, e_c9, e_w, Option.elim, if_neg c_18]; exact ⟨by rw [if_neg c_165], by rw [← lk_two c_18]; exact reM_lick (reM_lick hN0 h_t (by omega) _) h_u (by omega) _⟩)
                  · refine lv_iload hx hb dX5_jug_168 (lv_at hl 1 rfl) ?_
                    refine lv_iload hx hb dX5_jug_170 (lv_at hl 0 rfl) ?_
                    refine n_iadd hx hb dX5_jug_172 ?_
                    refine lv_goto (tgt := 178) hx hb dX5_jug_173 (by decide) ?_
                    exact wr_iret (va_up (va_up (g 10) t ((f 7 t) + 1)) u ((f 7 u) + 1)) hx hb hr hlocks hAe hS dX5_jug_178 (hP) (by simp only [spJug, e_t, e_u, e_j9, e_c9, e_w, Option.elim, if_neg c_18]; exact ⟨by rw [if_pos c_165], by rw [← lk_two c_18]; exact reM_lick (reM_lick hN0 h_t (by omega) _) h_u (by omega) _⟩)
                · refine lv_iload hx hb dX5_jug_131 (lv_at hl 6 rfl) ?_
                  refine lv_iload hx hb dX5_jug_133 (lv_at hl 1 rfl) ?_
                  refine n_isub hx hb dX5_jug_135 (by omega) ?_
                  refine lv_goto (tgt := 141) hx hb dX5_jug_136 (by decide) ?_
                  refine n_tope (show nI (c9 - (Nat.min (drk (f 5 t) (f 4 j9) (f 7 t) (k 5)) c9)) = nI (Nat.min (drk (f 5 u) (f 4 j9) (f 7 u) (k 5)) (c9 - Nat.min (drk (f 5 t) (f 4 j9) (f 7 t) (k 5)) c9)) from congrArg nI ((Nat.min_eq_right (by omega)).symm)) ?_
                  refine lv_istore (lv' := [(7, .int (nI (Nat.min (drk (f 5 u) (f 4 j9) (f 7 u) (k 5)) (c9 - Nat.min (drk (f 5 t) (f 4 j9) (f 7 t) (k 5)) c9)))), (6, .int (nI (Nat.min (drk (f 5 t) (f 4 j9) (f 7 t) (k 5)) c9))), (0, .ref (am 0)), (1, .int (nI t)), (2, .int (nI u)), (3, .int (nI j9)), (4, .int (nI c9)), (5, .int (nI w))]) hx hb dX5_jug_141 hl (by decide) rfl (fun ls hl => ?_)
                  refine lv_aload_n hx hb dX5_jug_143 rfl (lv_at hl 2 rfl) ?_
                  refine va_get (D := D) (ci := 4) (v := .ref (am 10)) (C := RX5) (T := TX5) (N := 21) hx hb hts (iX5) hown hK hP 0 rfl rfl 17 (by decide) (hts _ (List.mem_cons_of_mem _ wt_617)) (fun _ h9 => h9) rfl dX5_jug_144 ?_
                  refine lv_iload_n hx hb dX5_jug_147 rfl (lv_at hl 3 rfl) ?_
                  refine lv_dup2_11 hx hb dX5_jug_148 rfl rfl ?_
                  refine n_iald hx hb hK hP 8 (f := g 10) rfl (by omega) dX5_jug_149 ?_
                  refine n_tope (show nI (g 10 t) = nI (f 7 t) from congrArg nI ((m0 t (by omega)).trans (if_pos (by omega)))) ?_
                  refine lv_iconst (v := nI (1)) hx hb dX5_jug_150 (by decide) ?_
                  refine n_iadd hx hb dX5_jug_151 ?_
                  refine n_iast hx hb hK hP hD hS 8 (f := g 10) rfl (by omega) dX5_jug_152 (fun H locs hP hD hS => ?_)
                  have hP : va_P D cls5 [(am 0, .inr (4, [.long (tr), .ref (am 1), .int (nI (j 0)), .ref (am 2), .ref (am 3), .ref (am 4), .ref (am 5), .ref (am 6), .ref (am 7), .ref (am 8), .ref (am 9), .int (nI (j 1)), .int (nI (j 2)), .int (nI (j 3)), .int (nI (j 4)), .int (fl), .int (bI (hh)), .ref (am 10), .ref (am 11), .ref (am 12), .int (nI (j 5))])), (am 2, .inl (G.1, 2, .inl (nF (g 2)))), (am 3, .inl (G.1, 10, .inl (nF (g 3)))), (am 4, .inl (G.1, 2, .inl (nF (g 4)))), (am 5, .inl (G.1, 12, .inl (nF (g 5)))), (am 6, .inl (G.1, 12, .inl (nF (g 6)))), (am 7, .inl (G.1, 12, .inl (nF (g 7)))), (am 8, .inl (G.1, 12, .inl (nF (g 8)))), (am 10, .inl (G.1, 240, .inl (nF (va_up (g 10) t ((f 7 t) + 1)))))] H := hP
                  have hD : va_D A [(am 0, .inr (4, [.long (tr), .ref (am 1), .int (nI (j 0)), .ref (am 2), .ref (am 3), .ref (am 4), .ref (am 5), .ref (am 6), .ref (am 7), .ref (am 8), .ref (am 9), .int (nI (j 1)), .int (nI (j 2)), .int (nI (j 3)), .int (nI (j 4)), .int (fl), .int (bI (hh)), .ref (am 10), .ref (am 11), .ref (am 12), .int (nI (j 5))])), (am 2, .inl (G.1, 2, .inl (nF (g 2)))), (am 3, .inl (G.1, 10, .inl (nF (g 3)))), (am 4, .inl (G.1, 2, .inl (nF (g 4)))), (am 5, .inl (G.1, 12, .inl (nF (g 5)))), (am 6, .inl (G.1, 12, .inl (nF (g 6)))), (am 7, .inl (G.1, 12, .inl (nF (g 7)))), (am 8, .inl (G.1, 12, .inl (nF (g 8)))), (am 10, .inl (G.1, 240, .inl (nF (va_up (g 10) t ((f 7 t) + 1)))))] := hD
                  refine lv_aload_n hx hb dX5_jug_153 rfl (lv_at hl 2 rfl) ?_
                  refine va_get (D := D) (ci := 4) (v := .ref (am 10)) (C := RX5) (T := TX5) (N := 21) hx hb hts (iX5) hown hK hP 0 rfl rfl 17 (by decide) (hts _ (List.mem_cons_of_mem _ wt_617)) (fun _ h9 => h9) rfl dX5_jug_154 ?_
                  refine lv_iload_n hx hb dX5_jug_157 rfl (lv_at hl 4 rfl) ?_
                  refine lv_dup2_11 hx hb dX5_jug_158 rfl rfl ?_
                  refine n_iald hx hb hK hP 8 (f := va_up (g 10) t ((f 7 t) + 1)) rfl (by omega) dX5_jug_159 ?_
                  refine n_tope (show nI ((va_up (g 10) t ((f 7 t) + 1)) u) = nI (f 7 u) from congrArg nI ((upn (by simp only [va_up]; repeat (rw [if_neg (by omega)]))).trans ((m0 u (by omega)).trans (if_pos (by omega))))) ?_
                  refine lv_iconst (v := nI (1)) hx hb dX5_jug_160 (by decide) ?_
                  refine n_iadd hx hb dX5_jug_161 ?_
                  refine n_iast hx hb hK hP hD hS 8 (f := va_up (g 10) t ((f 7 t) + 1)) rfl (by omega) dX5_jug_162 (fun H locs hP hD hS => ?_)
                  have hP : va_P D cls5 [(am 0, .inr (4, [.long (tr), .ref (am 1), .int (nI (j 0)), .ref (am 2), .ref (am 3), .ref (am 4), .ref (am 5), .ref (am 6), .ref (am 7), .ref (am 8), .ref (am 9), .int (nI (j 1)), .int (nI (j 2)), .int (nI (j 3)), .int (nI (j 4)), .int (fl), .int (bI (hh)), .ref (am 10), .ref (am 11), .ref (am 12), .int (nI (j 5))])), (am 2, .inl (G.1, 2, .inl (nF (g 2)))), (am 3, .inl (G.1, 10, .inl (nF (g 3)))), (am 4, .inl (G.1, 2, .inl (nF (g 4)))), (am 5, .inl (G.1, 12, .inl (nF (g 5)))), (am 6, .inl (G.1, 12, .inl (nF (g 6)))), (am 7, .inl (G.1, 12, .inl (nF (g 7)))), (am 8, .inl (G.1, 12, .inl (nF (g 8)))), (am 10, .inl (G.1, 240, .inl (nF (va_up (va_up (g 10) t ((f 7 t) + 1)) u ((f 7 u) + 1)))))] H := hP
                  have hD : va_D A [(am 0, .inr (4, [.long (tr), .ref (am 1), .int (nI (j 0)), .ref (am 2), .ref (am 3), .ref (am 4), .ref (am 5), .ref (am 6), .ref (am 7), .ref (am 8), .ref (am 9), .int (nI (j 1)), .int (nI (j 2)), .int (nI (j 3)), .int (nI (j 4)), .int (fl), .int (bI (hh)), .ref (am 10), .ref (am 11), .ref (am 12), .int (nI (j 5))])), (am 2, .inl (G.1, 2, .inl (nF (g 2)))), (am 3, .inl (G.1, 10, .inl (nF (g 3)))), (am 4, .inl (G.1, 2, .inl (nF (g 4)))), (am 5, .inl (G.1, 12, .inl (nF (g 5)))), (am 6, .inl (G.1, 12, .inl (nF (g 6)))), (am 7, .inl (G.1, 12, .inl (nF (g 7)))), (am 8, .inl (G.1, 12, .inl (nF (g 8)))), (am 10, .inl (G.1, 240, .inl (nF (va_up (va_up (g 10) t ((f 7 t) + 1)) u ((f 7 u) + 1)))))] := hD
                  refine lv_iload hx hb dX5_jug_163 (lv_at hl 7 rfl) ?_
                  refine n_if_ne (tgt := 176) hx hb dX5_jug_165 (by decide) (by omega) (fun c_165 => ?_) (fun c_165 => ?_)
                  · refine lv_iload hx hb dX5_jug_176 (lv_at hl 0 rfl) ?_
                    exact wr_iret (va_up (va_up (g 10) t ((f 7 t) + 1)) u ((f 7 u) + 1)) hx hb hr hlocks hAe hS dX5_jug_178 (hP) (by simp only [spJug, e_t, e_u, e_j9, e_c9, e_w, Option.elim, if_neg c_18]; exact ⟨by rw [if_neg c_165], by rw [← lk_two c_18]; exact reM_lick (reM_lick hN0 h_t (by omega) _) h_u (by omega) _⟩)
                  · refine lv_iload hx hb dX5_jug_168 (lv_at hl 1 rfl) ?_
                    refine lv_iload hx hb dX5_jug_170 (lv_at hl 0 rfl) ?_
                    refine n_iadd hx hb dX5_jug_172 ?_
                    refine lv_goto (tgt := 178) hx hb dX5_jug_173 (by decide) ?_
                    exact wr_iret (va_up (va_up (g 10) t ((f 7 t) + 1)) u ((f 7 u) + 1)) hx hb hr hlocks hAe hS dX5_jug_178 (hP) (by simp only [spJug, e_t, e_u, e_j9, e_c9, e_w, Option.elim, if_neg c_18]; exact ⟨by rw [if_pos c_165], by rw [← lk_two c_18]; exact reM_lick (reM_lick hN0 h_t (by omega) _) h_u (by omega) _⟩)
              · refine lv_iload hx hb dX5_jug_86 (lv_at hl 5 rfl) ?_
                refine lv_goto (tgt := 93) hx hb dX5_jug_88 (by decide) ?_
                refine n_tope (show nI (c9) = nI (Nat.min (drk (f 5 t) (f 4 j9) (f 7 t) (k 5)) c9) from congrArg nI ((Nat.min_eq_right (by omega)).symm)) ?_
                have m1 : Nat.min (drk (f 5 t) (f 4 j9) (f 7 t) (k 5)) c9 ≤ c9 := Nat.min_le_right _ _
                refine lv_istore (lv' := [(6, .int (nI (Nat.min (drk (f 5 t) (f 4 j9) (f 7 t) (k 5)) c9))), (0, .ref (am 0)), (1, .int (nI t)), (2, .int (nI u)), (3, .int (nI j9)), (4, .int (nI c9)), (5, .int (nI w))]) hx hb dX5_jug_93 hl (by decide) rfl (fun ls hl => ?_)
                refine lv_aload_n hx hb dX5_jug_95 rfl (lv_at hl 1 rfl) ?_
                refine lv_iload_n hx hb dX5_jug_96 rfl (lv_at hl 3 rfl) ?_
                refine lv_aload_n hx hb dX5_jug_97 rfl (lv_at hl 1 rfl) ?_
                refine va_get (D := D) (ci := 4) (v := .ref (am 3)) (C := RX5) (T := TX5) (N := 21) hx hb hts (iX5) hown hK hP 0 rfl rfl 4 (by decide) (hts _ (List.mem_cons_of_mem _ wt_604)) (fun _ h9 => h9) rfl dX5_jug_98 ?_
                refine lv_iload_n hx hb dX5_jug_101 rfl (lv_at hl 4 rfl) ?_
                refine n_iald hx hb hK hP 2 (f := g 3) rfl (by omega) dX5_jug_102 ?_
                refine n_tope (show nI (g 3 j9) = nI (f 4 j9) from congrArg nI (m3 _ (by omega))) ?_
                refine lv_aload_n hx hb dX5_jug_103 rfl (lv_at hl 1 rfl) ?_
                refine va_get (D := D) (ci := 4) (v := .ref (am 10)) (C := RX5) (T := TX5) (N := 21) hx hb hts (iX5) hown hK hP 0 rfl rfl 17 (by decide) (hts _ (List.mem_cons_of_mem _ wt_617)) (fun _ h9 => h9) rfl dX5_jug_104 ?_
                refine lv_iload_n hx hb dX5_jug_107 rfl (lv_at hl 3 rfl) ?_
                refine n_iald hx hb hK hP 8 (f := g 10) rfl (by omega) dX5_jug_108 ?_
                refine n_tope (show nI (g 10 u) = nI (f 7 u) from congrArg nI ((m0 u (by omega)).trans (if_pos (by omega)))) ?_
                refine lv_aload_n hx hb dX5_jug_109 rfl (lv_at hl 1 rfl) ?_
                refine va_get (D := D) (ci := 4) (v := .ref (am 10)) (C := RX5) (T := TX5) (N := 21) hx hb hts (iX5) hown hK hP 0 rfl rfl 17 (by decide) (hts _ (List.mem_cons_of_mem _ wt_617)) (fun _ h9 => h9) rfl dX5_jug_110 ?_
                refine lv_bipush (v := nI (6)) hx hb dX5_jug_113 (by decide) ?_
                refine n_iald hx hb hK hP 8 (f := g 10) rfl (by omega) dX5_jug_115 ?_
                refine n_tope (show nI (g 10 6) = nI (k 5) from congrArg nI (m6)) ?_
                refine ro_i (roV_run (As := [.int (nI u), .int (nI (f 4 j9)), .int (nI (f 7 u)), .int (nI (k 5))]) (rest := []) hx hb hml hown hts Tg_M (c_X5_cupsOf l D G _ am n f k g j tx fl hh kp tr u (f 4 j9) (f 7 u) (k 5) (by omega) il m5 (by omega) (by omega) (by omega) (by omega)) lk_RX5_112 ⟨rfl, rfl, Nat.le_of_ble_eq_true rfl, Nat.le_of_ble_eq_true rfl⟩ hP hK [0, 4, 5, 6, 7] rfl 0 4 rfl rfl rfl rfl hl rfl (Nat.le_of_ble_eq_true rfl) dX5_jug_116 ⟨Nat.le_of_ble_eq_true rfl, Nat.le_of_ble_eq_true rfl⟩) hS hA (fun locs hS => ?_)
                refine lv_istore (lv' := [(7, .int (nI (drk (f 5 u) (f 4 j9) (f 7 u) (k 5)))), (6, .int (nI (Nat.min (drk (f 5 t) (f 4 j9) (f 7 t) (k 5)) c9))), (0, .ref (am 0)), (1, .int (nI t)), (2, .int (nI u)), (3, .int (nI j9)), (4, .int (nI c9)), (5, .int (nI w))]) hx hb dX5_jug_119 hl (by decide) rfl (fun ls hl => ?_)
                refine lv_iload hx hb dX5_jug_121 (lv_at hl 0 rfl) ?_
                refine lv_iload hx hb dX5_jug_123 (lv_at hl 6 rfl) ?_
                refine lv_iload hx hb dX5_jug_125 (lv_at hl 1 rfl) ?_
                refine n_isub hx hb dX5_jug_127 (by omega) ?_
                refine n_icmp_le (tgt := 139) hx hb dX5_jug_128 (by decide) (by omega) (by omega) (fun c_128 => ?_) (fun c_128 => ?_)
                · refine lv_iload hx hb dX5_jug_139 (lv_at hl 0 rfl) ?_
                  refine n_tope (show nI (drk (f 5 u) (f 4 j9) (f 7 u) (k 5)) = nI (Nat.min (drk (f 5 u) (f 4 j9) (f 7 u) (k 5)) (c9 - Nat.min (drk (f 5 t) (f 4 j9) (f 7 t) (k 5)) c9)) from congrArg nI ((Nat.min_eq_left (by omega)).symm)) ?_
                  refine lv_istore (lv' := [(7, .int (nI (Nat.min (drk (f 5 u) (f 4 j9) (f 7 u) (k 5)) (c9 - Nat.min (drk (f 5 t) (f 4 j9) (f 7 t) (k 5)) c9)))), (6, .int (nI (Nat.min (drk (f 5 t) (f 4 j9) (f 7 t) (k 5)) c9))), (0, .ref (am 0)), (1, .int (nI t)), (2, .int (nI u)), (3, .int (nI j9)), (4, .int (nI c9)), (5, .int (nI w))]) hx hb dX5_jug_141 hl (by decide) rfl (fun ls hl => ?_)
                  refine lv_aload_n hx hb dX5_jug_143 rfl (lv_at hl 2 rfl) ?_
                  refine va_get (D := D) (ci := 4) (v := .ref (am 10)) (C := RX5) (T := TX5) (N := 21) hx hb hts (iX5) hown hK hP 0 rfl rfl 17 (by decide) (hts _ (List.mem_cons_of_mem _ wt_617)) (fun _ h9 => h9) rfl dX5_jug_144 ?_
                  refine lv_iload_n hx hb dX5_jug_147 rfl (lv_at hl 3 rfl) ?_
                  refine lv_dup2_11 hx hb dX5_jug_148 rfl rfl ?_
                  refine n_iald hx hb hK hP 8 (f := g 10) rfl (by omega) dX5_jug_149 ?_
                  refine n_tope (show nI (g 10 t) = nI (f 7 t) from congrArg nI ((m0 t (by omega)).trans (if_pos (by omega)))) ?_
                  refine lv_iconst (v := nI (1)) hx hb dX5_jug_150 (by decide) ?_
                  refine n_iadd hx hb dX5_jug_151 ?_
                  refine n_iast hx hb hK hP hD hS 8 (f := g 10) rfl (by omega) dX5_jug_152 (fun H locs hP hD hS => ?_)
                  have hP : va_P D cls5 [(am 0, .inr (4, [.long (tr), .ref (am 1), .int (nI (j 0)), .ref (am 2), .ref (am 3), .ref (am 4), .ref (am 5), .ref (am 6), .ref (am 7), .ref (am 8), .ref (am 9), .int (nI (j 1)), .int (nI (j 2)), .int (nI (j 3)), .int (nI (j 4)), .int (fl), .int (bI (hh)), .ref (am 10), .ref (am 11), .ref (am 12), .int (nI (j 5))])), (am 2, .inl (G.1, 2, .inl (nF (g 2)))), (am 3, .inl (G.1, 10, .inl (nF (g 3)))), (am 4, .inl (G.1, 2, .inl (nF (g 4)))), (am 5, .inl (G.1, 12, .inl (nF (g 5)))), (am 6, .inl (G.1, 12, .inl (nF (g 6)))), (am 7, .inl (G.1, 12, .inl (nF (g 7)))), (am 8, .inl (G.1, 12, .inl (nF (g 8)))), (am 10, .inl (G.1, 240, .inl (nF (va_up (g 10) t ((f 7 t) + 1)))))] H := hP
                  have hD : va_D A [(am 0, .inr (4, [.long (tr), .ref (am 1), .int (nI (j 0)), .ref (am 2), .ref (am 3), .ref (am 4), .ref (am 5), .ref (am 6), .ref (am 7), .ref (am 8), .ref (am 9), .int (nI (j 1)), .int (nI (j 2)), .int (nI (j 3)), .int (nI (j 4)), .int (fl), .int (bI (hh)), .ref (am 10), .ref (am 11), .ref (am 12), .int (nI (j 5))])), (am 2, .inl (G.1, 2, .inl (nF (g 2)))), (am 3, .inl (G.1, 10, .inl (nF (g 3)))), (am 4, .inl (G.1, 2, .inl (nF (g 4)))), (am 5, .inl (G.1, 12, .inl (nF (g 5)))), (am 6, .inl (G.1, 12, .inl (nF (g 6)))), (am 7, .inl (G.1, 12, .inl (nF (g 7)))), (am 8, .inl (G.1, 12, .inl (nF (g 8)))), (am 10, .inl (G.1, 240, .inl (nF (va_up (g 10) t ((f 7 t) + 1)))))] := hD
                  refine lv_aload_n hx hb dX5_jug_153 rfl (lv_at hl 2 rfl) ?_
                  refine va_get (D := D) (ci := 4) (v := .ref (am 10)) (C := RX5) (T := TX5) (N := 21) hx hb hts (iX5) hown hK hP 0 rfl rfl 17 (by decide) (hts _ (List.mem_cons_of_mem _ wt_617)) (fun _ h9 => h9) rfl dX5_jug_154 ?_
                  refine lv_iload_n hx hb dX5_jug_157 rfl (lv_at hl 4 rfl) ?_
                  refine lv_dup2_11 hx hb dX5_jug_158 rfl rfl ?_
                  refine n_iald hx hb hK hP 8 (f := va_up (g 10) t ((f 7 t) + 1)) rfl (by omega) dX5_jug_159 ?_
                  refine n_tope (show nI ((va_up (g 10) t ((f 7 t) + 1)) u) = nI (f 7 u) from congrArg nI ((upn (by simp only [va_up]; repeat (rw [if_neg (by omega)]))).trans ((m0 u (by omega)).trans (if_pos (by omega))))) ?_
                  refine lv_iconst (v := nI (1)) hx hb dX5_jug_160 (by decide) ?_
                  refine n_iadd hx hb dX5_jug_161 ?_
                  refine n_iast hx hb hK hP hD hS 8 (f := va_up (g 10) t ((f 7 t) + 1)) rfl (by omega) dX5_jug_162 (fun H locs hP hD hS => ?_)
                  have hP : va_P D cls5 [(am 0, .inr (4, [.long (tr), .ref (am 1), .int (nI (j 0)), .ref (am 2), .ref (am 3), .ref (am 4), .ref (am 5), .ref (am 6), .ref (am 7), .ref (am 8), .ref (am 9), .int (nI (j 1)), .int (nI (j 2)), .int (nI (j 3)), .int (nI (j 4)), .int (fl), .int (bI (hh)), .ref (am 10), .ref (am 11), .ref (am 12), .int (nI (j 5))])), (am 2, .inl (G.1, 2, .inl (nF (g 2)))), (am 3, .inl (G.1, 10, .inl (nF (g 3)))), (am 4, .inl (G.1, 2, .inl (nF (g 4)))), (am 5, .inl (G.1, 12, .inl (nF (g 5)))), (am 6, .inl (G.1, 12, .inl (nF (g 6)))), (am 7, .inl (G.1, 12, .inl (nF (g 7)))), (am 8, .inl (G.1, 12, .inl (nF (g 8)))), (am 10, .inl (G.1, 240, .inl (nF (va_up (va_up (g 10) t ((f 7 t) + 1)) u ((f 7 u) + 1)))))] H := hP
                  have hD : va_D A [(am 0, .inr (4, [.long (tr), .ref (am 1), .int (nI (j 0)), .ref (am 2), .ref (am 3), .ref (am 4), .ref (am 5), .ref (am 6), .ref (am 7), .ref (am 8), .ref (am 9), .int (nI (j 1)), .int (nI (j 2)), .int (nI (j 3)), .int (nI (j 4)), .int (fl), .int (bI (hh)), .ref (am 10), .ref (am 11), .ref (am 12), .int (nI (j 5))])), (am 2, .inl (G.1, 2, .inl (nF (g 2)))), (am 3, .inl (G.1, 10, .inl (nF (g 3)))), (am 4, .inl (G.1, 2, .inl (nF (g 4)))), (am 5, .inl (G.1, 12, .inl (nF (g 5)))), (am 6, .inl (G.1, 12, .inl (nF (g 6)))), (am 7, .inl (G.1, 12, .inl (nF (g 7)))), (am 8, .inl (G.1, 12, .inl (nF (g 8)))), (am 10, .inl (G.1, 240, .inl (nF (va_up (va_up (g 10) t ((f 7 t) + 1)) u ((f 7 u) + 1)))))] := hD
                  refine lv_iload hx hb dX5_jug_163 (lv_at hl 7 rfl) ?_
                  refine n_if_ne (tgt := 176) hx hb dX5_jug_165 (by decide) (by omega) (fun c_165 => ?_) (fun c_165 => ?_)
                  · refine lv_iload hx hb dX5_jug_176 (lv_at hl 0 rfl) ?_
                    exact wr_iret (va_up (va_up (g 10) t ((f 7 t) + 1)) u ((f 7 u) + 1)) hx hb hr hlocks hAe hS dX5_jug_178 (hP) (by simp only [spJug, e_t, e_u, e_j9, e_c9, e_w, Option.elim, if_neg c_18]; exact ⟨by rw [if_neg c_165], by rw [← lk_two c_18]; exact reM_lick (reM_lick hN0 h_t (by omega) _) h_u (by omega) _⟩)
                  · refine lv_iload hx hb dX5_jug_168 (lv_at hl 1 rfl) ?_
                    refine lv_iload hx hb dX5_jug_170 (lv_at hl 0 rfl) ?_
                    refine n_iadd hx hb dX5_jug_172 ?_
                    refine lv_goto (tgt := 178) hx hb dX5_jug_173 (by decide) ?_
                    exact wr_iret (va_up (va_up (g 10) t ((f 7 t) + 1)) u ((f 7 u) + 1)) hx hb hr hlocks hAe hS dX5_jug_178 (hP) (by simp only [spJug, e_t, e_u, e_j9, e_c9, e_w, Option.elim, if_neg c_18]; exact ⟨by rw [if_pos c_165], by rw [← lk_two c_18]; exact reM_lick (reM_lick hN0 h_t (by omega) _) h_u (by omega) _⟩)
                · refine lv_iload hx hb dX5_jug_131 (lv_at hl 6 rfl) ?_
                  refine lv_iload hx hb dX5_jug_133 (lv_at hl 1 rfl) ?_
                  refine n_isub hx hb dX5_jug_135 (by omega) ?_
                  refine lv_goto (tgt := 141) hx hb dX5_jug_136 (by decide) ?_
                  refine n_tope (show nI (c9 - (Nat.min (drk (f 5 t) (f 4 j9) (f 7 t) (k 5)) c9)) = nI (Nat.min (drk (f 5 u) (f 4 j9) (f 7 u) (k 5)) (c9 - Nat.min (drk (f 5 t) (f 4 j9) (f 7 t) (k 5)) c9)) from congrArg nI ((Nat.min_eq_right (by omega)).symm)) ?_
                  refine lv_istore (lv' := [(7, .int (nI (Nat.min (drk (f 5 u) (f 4 j9) (f 7 u) (k 5)) (c9 - Nat.min (drk (f 5 t) (f 4 j9) (f 7 t) (k 5)) c9)))), (6, .int (nI (Nat.min (drk (f 5 t) (f 4 j9) (f 7 t) (k 5)) c9))), (0, .ref (am 0)), (1, .int (nI t)), (2, .int (nI u)), (3, .int (nI j9)), (4, .int (nI c9)), (5, .int (nI w))]) hx hb dX5_jug_141 hl (by decide) rfl (fun ls hl => ?_)
                  refine lv_aload_n hx hb dX5_jug_143 rfl (lv_at hl 2 rfl) ?_
                  refine va_get (D := D) (ci := 4) (v := .ref (am 10)) (C := RX5) (T := TX5) (N := 21) hx hb hts (iX5) hown hK hP 0 rfl rfl 17 (by decide) (hts _ (List.mem_cons_of_mem _ wt_617)) (fun _ h9 => h9) rfl dX5_jug_144 ?_
                  refine lv_iload_n hx hb dX5_jug_147 rfl (lv_at hl 3 rfl) ?_
                  refine lv_dup2_11 hx hb dX5_jug_148 rfl rfl ?_
                  refine n_iald hx hb hK hP 8 (f := g 10) rfl (by omega) dX5_jug_149 ?_
                  refine n_tope (show nI (g 10 t) = nI (f 7 t) from congrArg nI ((m0 t (by omega)).trans (if_pos (by omega)))) ?_
                  refine lv_iconst (v := nI (1)) hx hb dX5_jug_150 (by decide) ?_
                  refine n_iadd hx hb dX5_jug_151 ?_
                  refine n_iast hx hb hK hP hD hS 8 (f := g 10) rfl (by omega) dX5_jug_152 (fun H locs hP hD hS => ?_)
                  have hP : va_P D cls5 [(am 0, .inr (4, [.long (tr), .ref (am 1), .int (nI (j 0)), .ref (am 2), .ref (am 3), .ref (am 4), .ref (am 5), .ref (am 6), .ref (am 7), .ref (am 8), .ref (am 9), .int (nI (j 1)), .int (nI (j 2)), .int (nI (j 3)), .int (nI (j 4)), .int (fl), .int (bI (hh)), .ref (am 10), .ref (am 11), .ref (am 12), .int (nI (j 5))])), (am 2, .inl (G.1, 2, .inl (nF (g 2)))), (am 3, .inl (G.1, 10, .inl (nF (g 3)))), (am 4, .inl (G.1, 2, .inl (nF (g 4)))), (am 5, .inl (G.1, 12, .inl (nF (g 5)))), (am 6, .inl (G.1, 12, .inl (nF (g 6)))), (am 7, .inl (G.1, 12, .inl (nF (g 7)))), (am 8, .inl (G.1, 12, .inl (nF (g 8)))), (am 10, .inl (G.1, 240, .inl (nF (va_up (g 10) t ((f 7 t) + 1)))))] H := hP
                  have hD : va_D A [(am 0, .inr (4, [.long (tr), .ref (am 1), .int (nI (j 0)), .ref (am 2), .ref (am 3), .ref (am 4), .ref (am 5), .ref (am 6), .ref (am 7), .ref (am 8), .ref (am 9), .int (nI (j 1)), .int (nI (j 2)), .int (nI (j 3)), .int (nI (j 4)), .int (fl), .int (bI (hh)), .ref (am 10), .ref (am 11), .ref (am 12), .int (nI (j 5))])), (am 2, .inl (G.1, 2, .inl (nF (g 2)))), (am 3, .inl (G.1, 10, .inl (nF (g 3)))), (am 4, .inl (G.1, 2, .inl (nF (g 4)))), (am 5, .inl (G.1, 12, .inl (nF (g 5)))), (am 6, .inl (G.1, 12, .inl (nF (g 6)))), (am 7, .inl (G.1, 12, .inl (nF (g 7)))), (am 8, .inl (G.1, 12, .inl (nF (g 8)))), (am 10, .inl (G.1, 240, .inl (nF (va_up (g 10) t ((f 7 t) + 1)))))] := hD
                  refine lv_aload_n hx hb dX5_jug_153 rfl (lv_at hl 2 rfl) ?_
                  refine va_get (D := D) (ci := 4) (v := .ref (am 10)) (C := RX5) (T := TX5) (N := 21) hx hb hts (iX5) hown hK hP 0 rfl rfl 17 (by decide) (hts _ (List.mem_cons_of_mem _ wt_617)) (fun _ h9 => h9) rfl dX5_jug_154 ?_
                  refine lv_iload_n hx hb dX5_jug_157 rfl (lv_at hl 4 rfl) ?_
                  refine lv_dup2_11 hx hb dX5_jug_158 rfl rfl ?_
                  refine n_iald hx hb hK hP 8 (f := va_up (g 10) t ((f 7 t) + 1)) rfl (by omega) dX5_jug_159 ?_
                  refine n_tope (show nI ((va_up (g 10) t ((f 7 t) + 1)) u) = nI (f 7 u) from congrArg nI ((upn (by simp only [va_up]; repeat (rw [if_neg (by omega)]))).trans ((m0 u (by omega)).trans (if_pos (by omega))))) ?_
                  refine lv_iconst (v := nI (1)) hx hb dX5_jug_160 (by decide) ?_
                  refine n_iadd hx hb dX5_jug_161 ?_
                  refine n_iast hx hb hK hP hD hS 8 (f := va_up (g 10) t ((f 7 t) + 1)) rfl (by omega) dX5_jug_162 (fun H locs hP hD hS => ?_)
                  have hP : va_P D cls5 [(am 0, .inr (4, [.long (tr), .ref (am 1), .int (nI (j 0)), .ref (am 2), .ref (am 3), .ref (am 4), .ref (am 5), .ref (am 6), .ref (am 7), .ref (am 8), .ref (am 9), .int (nI (j 1)), .int (nI (j 2)), .int (nI (j 3)), .int (nI (j 4)), .int (fl), .int (bI (hh)), .ref (am 10), .ref (am 11), .ref (am 12), .int (nI (j 5))])), (am 2, .inl (G.1, 2, .inl (nF (g 2)))), (am 3, .inl (G.1, 10, .inl (nF (g 3)))), (am 4, .inl (G.1, 2, .inl (nF (g 4)))), (am 5, .inl (G.1, 12, .inl (nF (g 5)))), (am 6, .inl (G.1, 12, .inl (nF (g 6)))), (am 7, .inl (G.1, 12, .inl (nF (g 7)))), (am 8, .inl (G.1, 12, .inl (nF (g 8)))), (am 10, .inl (G.1, 240, .inl (nF (va_up (va_up (g 10) t ((f 7 t) + 1)) u ((f 7 u) + 1)))))] H := hP
                  have hD : va_D A [(am 0, .inr (4, [.long (tr), .ref (am 1), .int (nI (j 0)), .ref (am 2), .ref (am 3), .ref (am 4), .ref (am 5), .ref (am 6), .ref (am 7), .ref (am 8), .ref (am 9), .int (nI (j 1)), .int (nI (j 2)), .int (nI (j 3)), .int (nI (j 4)), .int (fl), .int (bI (hh)), .ref (am 10), .ref (am 11), .ref (am 12), .int (nI (j 5))])), (am 2, .inl (G.1, 2, .inl (nF (g 2)))), (am 3, .inl (G.1, 10, .inl (nF (g 3)))), (am 4, .inl (G.1, 2, .inl (nF (g 4)))), (am 5, .inl (G.1, 12, .inl (nF (g 5)))), (am 6, .inl (G.1, 12, .inl (nF (g 6)))), (am 7, .inl (G.1, 12, .inl (nF (g 7)))), (am 8, .inl (G.1, 12, .inl (nF (g 8)))), (am 10, .inl (G.1, 240, .inl (nF (va_up (va_up (g 10) t ((f 7 t) + 1)) u ((f 7 u) + 1)))))] := hD
                  refine lv_iload hx hb dX5_jug_163 (lv_at hl 7 rfl) ?_
                  refine n_if_ne (tgt := 176) hx hb dX5_jug_165 (by decide) (by omega) (fun c_165 => ?_) (fun c_165 => ?_)
                  · refine lv_iload hx hb dX5_jug_176 (lv_at hl 0 rfl) ?_
                    exact wr_iret (va_up (va_up (g 10) t ((f 7 t) + 1)) u ((f 7 u) + 1)) hx hb hr hlocks hAe hS dX5_jug_178 (hP) (by simp only [spJug, e_t, e_u, e_j9, e_c9, e_w, Option.elim, if_neg c_18]; exact ⟨by rw [if_neg c_165], by rw [← lk_two c_18]; exact reM_lick (reM_lick hN0 h_t (by omega) _) h_u (by omega) _⟩)
                  · refine lv_iload hx hb dX5_jug_168 (lv_at hl 1 rfl) ?_
                    refine lv_iload hx hb dX5_jug_170 (lv_at hl 0 rfl) ?_
                    refine n_iadd hx hb dX5_jug_172 ?_
                    refine lv_goto (tgt := 178) hx hb dX5_jug_173 (by decide) ?_
                    exact wr_iret (va_up (va_up (g 10) t ((f 7 t) + 1)) u ((f 7 u) + 1)) hx hb hr hlocks hAe hS dX5_jug_178 (hP) (by simp only [spJug, e_t, e_u, e_j9, e_c9, e_w, Option.elim, if_neg c_18]; exact ⟨by rw [if_pos c_165], by rw [← lk_two c_18]; exact reM_lick (reM_lick hN0 h_t (by omega) _) h_u (by omega) _⟩)
            · have e_w := ir_no c_48
              refine lv_iconst (v := (-1)) hx hb dX5_jug_51 (by decide) ?_
              exact wr_iret (g 10) hx hb hr hlocks hAe hS dX5_jug_52 (hP) (by simp only [spJug, e_t, e_u, e_j9, e_c9, e_w, Option.elim, if_neg c_18]; exact ⟨by trivial, hN0⟩)

set_option maxHeartbeats 4000000 in
set_option maxRecDepth 100000 in
theorem c_X5_night (l : Launch) (D : va_G) (G : ClassId × ClassId × ClassId) (H0 : Heap) (am n : Nat → Nat) (f : Nat → Nat → Nat) (k : Nat → Nat) (g : Nat → Nat → Nat) (j : Nat → Nat) (tx : Nat → Int32) (fl : Int32) (hh : Bool) (kp : Nat → Bool) (tr : Int64) (q : Nat) (hI : XI n f k q) (hM : RQ n f k g) : Met l yX5_night (wM yX5_night cX5_night 3 (some .int)) (rmD 2) (wP D G [.ref (am 0)] [(am 0, .inr (4, [.long (tr), .ref (am 1), .int (nI (j 0)), .ref (am 2), .ref (am 3), .ref (am 4), .ref (am 5), .ref (am 6), .ref (am 7), .ref (am 8), .ref (am 9), .int (nI (j 1)), .int (nI (j 2)), .int (nI (j 3)), .int (nI (j 4)), .int (fl), .int (bI (hh)), .ref (am 10), .ref (am 11), .ref (am 12), .int (nI (j 5))])), (am 10, .inl (G.1, 240, .inl (nF (g 10))))] H0) (wQi (S := (Nat → Nat)) D (fun r u => r = (spNight n f).1 ∧ reM (n 5) (g 10) u (spNight n f).2 (n 8) (f 8) (k 5)) [(am 0, .inr (4, [.long (tr), .ref (am 1), .int (nI (j 0)), .ref (am 2), .ref (am 3), .ref (am 4), .ref (am 5), .ref (am 6), .ref (am 7), .ref (am 8), .ref (am 9), .int (nI (j 1)), .int (nI (j 2)), .int (nI (j 3)), .int (nI (j 4)), .int (fl), .int (bI (hh)), .ref (am 10), .ref (am 11), .ref (am 12), .int (nI (j 5))])), (am 10, .inl (G.1, 240, .inl (nF (g 10))))] (fun u => [(am 0, .inr (4, [.long (tr), .ref (am 1), .int (nI (j 0)), .ref (am 2), .ref (am 3), .ref (am 4), .ref (am 5), .ref (am 6), .ref (am 7), .ref (am 8), .ref (am 9), .int (nI (j 1)), .int (nI (j 2)), .int (nI (j 3)), .int (nI (j 4)), .int (fl), .int (bI (hh)), .ref (am 10), .ref (am 11), .ref (am 12), .int (nI (j 5))])), (am 10, .inl (G.1, 240, .inl (nF (u))))]) H0) 0 0 (va_A [(am 0, .inr (4, [.long (tr), .ref (am 1), .int (nI (j 0)), .ref (am 2), .ref (am 3), .ref (am 4), .ref (am 5), .ref (am 6), .ref (am 7), .ref (am 8), .ref (am 9), .int (nI (j 1)), .int (nI (j 2)), .int (nI (j 3)), .int (nI (j 4)), .int (fl), .int (bI (hh)), .ref (am 10), .ref (am 11), .ref (am 12), .int (nI (j 5))])), (am 10, .inl (G.1, 240, .inl (nF (g 10))))] H0.size) := by
  refine wr_start (Qc := fun H0 => (wQi (S := (Nat → Nat)) D (fun r u => r = (spNight n f).1 ∧ reM (n 5) (g 10) u (spNight n f).2 (n 8) (f 8) (k 5)) [(am 0, .inr (4, [.long (tr), .ref (am 1), .int (nI (j 0)), .ref (am 2), .ref (am 3), .ref (am 4), .ref (am 5), .ref (am 6), .ref (am 7), .ref (am 8), .ref (am 9), .int (nI (j 1)), .int (nI (j 2)), .int (nI (j 3)), .int (nI (j 4)), .int (fl), .int (bI (hh)), .ref (am 10), .ref (am 11), .ref (am 12), .int (nI (j 5))])), (am 10, .inl (G.1, 240, .inl (nF (g 10))))] (fun u => [(am 0, .inr (4, [.long (tr), .ref (am 1), .int (nI (j 0)), .ref (am 2), .ref (am 3), .ref (am 4), .ref (am 5), .ref (am 6), .ref (am 7), .ref (am 8), .ref (am 9), .int (nI (j 1)), .int (nI (j 2)), .int (nI (j 3)), .int (nI (j 4)), .int (fl), .int (bI (hh)), .ref (am 10), .ref (am 11), .ref (am 12), .int (nI (j 5))])), (am 10, .inl (G.1, 240, .inl (nF (u))))]) H0)) (by decide) (Nat.le_of_ble_eq_true rfl) ?_
  intro p e s m args below meth c hx hb hr hts hown hlocks hml hK A hAe hA hH0 ls hl H locs hP hD hS
  have hl : lv_has ls 3 [(0, .ref (am 0))] := hl
  have hI0 := hI
  have hM0 := hM
  obtain ⟨i4, i5, i6, iq, iw, il, i7, i8, ih9, ik, iF⟩ := hI
  obtain ⟨m2, m3, m4, m5, m0, m6, m7, m8⟩ := hM
  have hN0 : reM (n 5) (g 10) (g 10) (f 7) (n 8) (f 8) (k 5) := ⟨hM0.2.2.2.2, fun _ _ => rfl⟩
  rw [show nF (g 10) = nF (zeF (g 10) 0) from congrArg nF (zeF_0 (g 10)).symm] at hP hD
  have hP : va_P D cls5 [(am 0, .inr (4, [.long (tr), .ref (am 1), .int (nI (j 0)), .ref (am 2), .ref (am 3), .ref (am 4), .ref (am 5), .ref (am 6), .ref (am 7), .ref (am 8), .ref (am 9), .int (nI (j 1)), .int (nI (j 2)), .int (nI (j 3)), .int (nI (j 4)), .int (fl), .int (bI (hh)), .ref (am 10), .ref (am 11), .ref (am 12), .int (nI (j 5))])), (am 10, .inl (G.1, 240, .inl (nF (zeF (g 10) 0))))] H := hP
  have hD : va_D A [(am 0, .inr (4, [.long (tr), .ref (am 1), .int (nI (j 0)), .ref (am 2), .ref (am 3), .ref (am 4), .ref (am 5), .ref (am 6), .ref (am 7), .ref (am 8), .ref (am 9), .int (nI (j 1)), .int (nI (j 2)), .int (nI (j 3)), .int (nI (j 4)), .int (fl), .int (bI (hh)), .ref (am 10), .ref (am 11), .ref (am 12), .int (nI (j 5))])), (am 10, .inl (G.1, 240, .inl (nF (zeF (g 10) 0))))] := hD
  refine lv_iconst (v := nI (0)) hx hb dX5_night_0 (by decide) ?_
  refine lv_istore_n (lv' := [(1, .int (nI 0)), (0, .ref (am 0))]) hx hb dX5_night_1 rfl hl (by decide) rfl (fun ls hl => ?_)
  refine lv_iconst (v := nI (0)) hx hb dX5_night_2 (by decide) ?_
  refine lv_istore_n (lv' := [(2, .int (nI 0)), (1, .int (nI 0)), (0, .ref (am 0))]) hx hb dX5_night_3 rfl hl (by decide) rfl (fun ls hl => ?_)
  have loop_1 : ∀ (fuel : Nat) (t : Nat), (t ≤ 6) → (6 - t) < fuel → ∀ (H : Heap) (locs : List Loc), va_P D cls5 [(am 0, .inr (4, [.long (tr), .ref (am 1), .int (nI (j 0)), .ref (am 2), .ref (am 3), .ref (am 4), .ref (am 5), .ref (am 6), .ref (am 7), .ref (am 8), .ref (am 9), .int (nI (j 1)), .int (nI (j 2)), .int (nI (j 3)), .int (nI (j 4)), .int (fl), .int (bI (hh)), .ref (am 10), .ref (am 11), .ref (am 12), .int (nI (j 5))])), (am 10, .inl (G.1, 240, .inl (nF (zeF (g 10) t))))] H → va_D A [(am 0, .inr (4, [.long (tr), .ref (am 1), .int (nI (j 0)), .ref (am 2), .ref (am 3), .ref (am 4), .ref (am 5), .ref (am 6), .ref (am 7), .ref (am 8), .ref (am 9), .int (nI (j 1)), .int (nI (j 2)), .int (nI (j 3)), .int (nI (j 4)), .int (fl), .int (bI (hh)), .ref (am 10), .ref (am 11), .ref (am 12), .int (nI (j 5))])), (am 10, .inl (G.1, 240, .inl (nF (zeF (g 10) t))))] → va_S A s.heap H locs → ∀ (ls : Array Slot), lv_has ls 3 [(0, .ref (am 0)), (1, .int (nI (smS (g 10) t))), (2, .int (nI t))] → W p l e (rmD 2) s m args below meth c H locs 0 0 (MQ below (wQi (S := (Nat → Nat)) D (fun r u => r = (spNight n f).1 ∧ reM (n 5) (g 10) u (spNight n f).2 (n 8) (f 8) (k 5)) [(am 0, .inr (4, [.long (tr), .ref (am 1), .int (nI (j 0)), .ref (am 2), .ref (am 3), .ref (am 4), .ref (am 5), .ref (am 6), .ref (am 7), .ref (am 8), .ref (am 9), .int (nI (j 1)), .int (nI (j 2)), .int (nI (j 3)), .int (nI (j 4)), .int (fl), .int (bI (hh)), .ref (am 10), .ref (am 11), .ref (am 12), .int (nI (j 5))])), (am 10, .inl (G.1, 240, .inl (nF (g 10))))] (fun u => [(am 0, .inr (4, [.long (tr), .ref (am 1), .int (nI (j 0)), .ref (am 2), .ref (am 3), .ref (am 4), .ref (am 5), .ref (am 6), .ref (am 7), .ref (am 8), .ref (am 9), .int (nI (j 1)), .int (nI (j 2)), .int (nI (j 3)), .int (nI (j 4)), .int (fl), .int (bI (hh)), .ref (am 10), .ref (am 11), .ref (am 12), .int (nI (j 5))])), (am 10, .inl (G.1, 240, .inl (nF (u))))]) s.heap) args s 0 0 A) (F0 m 4 ls []) := by
    intro fuel
    induction fuel with
    | zero => intro t hi1 hfu; exact absurd hfu (Nat.not_lt_zero _)
    | succ fuel ih_2 =>
      intro t hi1 hfu H locs hP hD hS ls hl
      refine lv_iload_n hx hb dX5_night_4 rfl (lv_at hl 2 rfl) ?_
      refine lv_bipush (v := nI (6)) hx hb dX5_night_5 (by decide) ?_
      refine n_icmp_ge (tgt := 32) hx hb dX5_night_7 (by decide) (by omega) (by omega) (fun c_7 => ?_) (fun c_7 => ?_)
      · refine lv_iload_n hx hb dX5_night_32 rfl (lv_at hl 1 rfl) ?_
        exact wr_iret (zeF (g 10) 6) hx hb hr hlocks hAe hS dX5_night_33 (by obtain rfl : t = 6 := (by omega); exact hP) (by obtain rfl : t = 6 := (by omega); exact ⟨congrArg nI ((smS_cut m0 6 (by omega)).trans (by rw [show min 6 (n 5) = n 5 by omega])), reM_zero hN0⟩)
      · refine lv_iload_n hx hb dX5_night_10 rfl (lv_at hl 1 rfl) ?_
        refine lv_aload_n hx hb dX5_night_11 rfl (lv_at hl 0 rfl) ?_
        refine va_get (D := D) (ci := 4) (v := .ref (am 10)) (C := RX5) (T := TX5) (N := 21) hx hb hts (iX5) hown hK hP 0 rfl rfl 17 (by decide) (hts _ (List.mem_cons_of_mem _ wt_617)) (fun _ h9 => h9) rfl dX5_night_12 ?_
        refine lv_iload_n hx hb dX5_night_15 rfl (lv_at hl 2 rfl) ?_
        refine n_iald hx hb hK hP 1 (f := zeF (g 10) t) rfl (by omega) dX5_night_16 ?_
        refine n_tope (show nI ((zeF (g 10) t) t) = nI (g 10 t) from congrArg nI (zeF_at (Nat.le_refl t))) ?_
        refine n_iadd hx hb dX5_night_17 ?_
        refine lv_istore_n (lv' := [(1, .int (nI ((smS (g 10) t) + (g 10 t)))), (0, .ref (am 0)), (2, .int (nI t))]) hx hb dX5_night_18 rfl hl (by decide) rfl (fun ls hl => ?_)
        refine lv_aload_n hx hb dX5_night_19 rfl (lv_at hl 1 rfl) ?_
        refine va_get (D := D) (ci := 4) (v := .ref (am 10)) (C := RX5) (T := TX5) (N := 21) hx hb hts (iX5) hown hK hP 0 rfl rfl 17 (by decide) (hts _ (List.mem_cons_of_mem _ wt_617)) (fun _ h9 => h9) rfl dX5_night_20 ?_
        refine lv_iload_n hx hb dX5_night_23 rfl (lv_at hl 2 rfl) ?_
        refine lv_iconst (v := nI (0)) hx hb dX5_night_24 (by decide) ?_
        refine n_iast hx hb hK hP hD hS 1 (f := zeF (g 10) t) rfl (by omega) dX5_night_25 (fun H locs hP hD hS => ?_)
        rw [zeF_s] at hP hD
        have hP : va_P D cls5 [(am 0, .inr (4, [.long (tr), .ref (am 1), .int (nI (j 0)), .ref (am 2), .ref (am 3), .ref (am 4), .ref (am 5), .ref (am 6), .ref (am 7), .ref (am 8), .ref (am 9), .int (nI (j 1)), .int (nI (j 2)), .int (nI (j 3)), .int (nI (j 4)), .int (fl), .int (bI (hh)), .ref (am 10), .ref (am 11), .ref (am 12), .int (nI (j 5))])), (am 10, .inl (G.1, 240, .inl (nF (zeF (g 10) (t + 1)))))] H := hP
        have hD : va_D A [(am 0, .inr (4, [.long (tr), .ref (am 1), .int (nI (j 0)), .ref (am 2), .ref (am 3), .ref (am 4), .ref (am 5), .ref (am 6), .ref (am 7), .ref (am 8), .ref (am 9), .int (nI (j 1)), .int (nI (j 2)), .int (nI (j 3)), .int (nI (j 4)), .int (fl), .int (bI (hh)), .ref (am 10), .ref (am 11), .ref (am 12), .int (nI (j 5))])), (am 10, .inl (G.1, 240, .inl (nF (zeF (g 10) (t + 1)))))] := hD
        refine lv_iinc (v := nI (t + 1)) (lv' := [(2, .int (nI (t + 1))), (1, .int (nI ((smS (g 10) t) + (g 10 t)))), (0, .ref (am 0))]) hx hb dX5_night_26 hl (k := 2) rfl (nI_inc _ _) (by decide) rfl (fun ls hl => ?_)
        refine lv_goto (tgt := 4) hx hb dX5_night_29 (by decide) ?_
        exact ih_2 (t + 1) (by omega) (by omega) H locs hP hD hS _ (lv_sub hl [2, 1, 0] rfl)
  exact loop_1 (6 - 0 + 1) (0) (by omega) (Nat.lt_succ_self _) H locs hP hD hS _ (lv_sub hl [2, 1, 0] rfl)

set_option maxHeartbeats 4000000 in
set_option maxRecDepth 100000 in
theorem c_X5_heat (l : Launch) (D : va_G) (G : ClassId × ClassId × ClassId) (H0 : Heap) (am n : Nat → Nat) (f : Nat → Nat → Nat) (k : Nat → Nat) (g : Nat → Nat → Nat) (j : Nat → Nat) (tx : Nat → Int32) (fl : Int32) (hh : Bool) (kp : Nat → Bool) (tr : Int64) (q : Nat) (a : Int32) (hI : XI n f k q) (hM : RQ n f k g) : Met l yX5_heat (wM yX5_heat cX5_heat 3 (some .int)) (rmD 2) (wP D G [.ref (am 0), .int (a)] [(am 0, .inr (4, [.long (tr), .ref (am 1), .int (nI (j 0)), .ref (am 2), .ref (am 3), .ref (am 4), .ref (am 5), .ref (am 6), .ref (am 7), .ref (am 8), .ref (am 9), .int (nI (j 1)), .int (nI (j 2)), .int (nI (j 3)), .int (nI (j 4)), .int (fl), .int (bI (hh)), .ref (am 10), .ref (am 11), .ref (am 12), .int (nI (j 5))])), (am 10, .inl (G.1, 240, .inl (nF (g 10))))] H0) (wQi (S := (Nat → Nat)) D (fun r u => r = (spHeat k a).1 ∧ reM (n 5) (g 10) u (f 7) (n 8) (f 8) (spHeat k a).2) [(am 0, .inr (4, [.long (tr), .ref (am 1), .int (nI (j 0)), .ref (am 2), .ref (am 3), .ref (am 4), .ref (am 5), .ref (am 6), .ref (am 7), .ref (am 8), .ref (am 9), .int (nI (j 1)), .int (nI (j 2)), .int (nI (j 3)), .int (nI (j 4)), .int (fl), .int (bI (hh)), .ref (am 10), .ref (am 11), .ref (am 12), .int (nI (j 5))])), (am 10, .inl (G.1, 240, .inl (nF (g 10))))] (fun u => [(am 0, .inr (4, [.long (tr), .ref (am 1), .int (nI (j 0)), .ref (am 2), .ref (am 3), .ref (am 4), .ref (am 5), .ref (am 6), .ref (am 7), .ref (am 8), .ref (am 9), .int (nI (j 1)), .int (nI (j 2)), .int (nI (j 3)), .int (nI (j 4)), .int (fl), .int (bI (hh)), .ref (am 10), .ref (am 11), .ref (am 12), .int (nI (j 5))])), (am 10, .inl (G.1, 240, .inl (nF (u))))]) H0) 0 0 (va_A [(am 0, .inr (4, [.long (tr), .ref (am 1), .int (nI (j 0)), .ref (am 2), .ref (am 3), .ref (am 4), .ref (am 5), .ref (am 6), .ref (am 7), .ref (am 8), .ref (am 9), .int (nI (j 1)), .int (nI (j 2)), .int (nI (j 3)), .int (nI (j 4)), .int (fl), .int (bI (hh)), .ref (am 10), .ref (am 11), .ref (am 12), .int (nI (j 5))])), (am 10, .inl (G.1, 240, .inl (nF (g 10))))] H0.size) := by
  refine wr_start (Qc := fun H0 => (wQi (S := (Nat → Nat)) D (fun r u => r = (spHeat k a).1 ∧ reM (n 5) (g 10) u (f 7) (n 8) (f 8) (spHeat k a).2) [(am 0, .inr (4, [.long (tr), .ref (am 1), .int (nI (j 0)), .ref (am 2), .ref (am 3), .ref (am 4), .ref (am 5), .ref (am 6), .ref (am 7), .ref (am 8), .ref (am 9), .int (nI (j 1)), .int (nI (j 2)), .int (nI (j 3)), .int (nI (j 4)), .int (fl), .int (bI (hh)), .ref (am 10), .ref (am 11), .ref (am 12), .int (nI (j 5))])), (am 10, .inl (G.1, 240, .inl (nF (g 10))))] (fun u => [(am 0, .inr (4, [.long (tr), .ref (am 1), .int (nI (j 0)), .ref (am 2), .ref (am 3), .ref (am 4), .ref (am 5), .ref (am 6), .ref (am 7), .ref (am 8), .ref (am 9), .int (nI (j 1)), .int (nI (j 2)), .int (nI (j 3)), .int (nI (j 4)), .int (fl), .int (bI (hh)), .ref (am 10), .ref (am 11), .ref (am 12), .int (nI (j 5))])), (am 10, .inl (G.1, 240, .inl (nF (u))))]) H0)) (by decide) (Nat.le_of_ble_eq_true rfl) ?_
  intro p e s m args below meth c hx hb hr hts hown hlocks hml hK A hAe hA hH0 ls hl H locs hP hD hS
  have hl : lv_has ls 3 [(0, .ref (am 0)), (1, .int (a))] := hl
  have hI0 := hI
  have hM0 := hM
  obtain ⟨i4, i5, i6, iq, iw, il, i7, i8, ih9, ik, iF⟩ := hI
  obtain ⟨m2, m3, m4, m5, m0, m6, m7, m8⟩ := hM
  have hN0 : reM (n 5) (g 10) (g 10) (f 7) (n 8) (f 8) (k 5) := ⟨hM0.2.2.2.2, fun _ _ => rfl⟩
  refine lv_iload_n hx hb dX5_heat_0 rfl (lv_at hl 1 rfl) ?_
  refine lv_iconst (v := nI (0)) hx hb dX5_heat_1 (by decide) ?_
  refine lv_bipush (v := nI (9)) hx hb dX5_heat_2 (by decide) ?_
  refine ro_i (roS_run (As := [.int (a), .int (nI 0), .int (nI 9)]) (rest := []) hx hb hml hown hts Tg_M (c_X5_in l D G _ (a) (nI (0)) (nI (9))) lk_RX5_52 ⟨rfl, rfl, Nat.le_of_ble_eq_true rfl, Nat.le_of_ble_eq_true rfl⟩ hP hK [] rfl rfl hl rfl (Nat.le_of_ble_eq_true rfl) dX5_heat_4 ⟨Nat.le_of_ble_eq_true rfl, Nat.le_of_ble_eq_true rfl⟩) hS hA (fun locs hS => ?_)
  refine b_if_ne (tgt := 12) hx hb dX5_heat_7 (by decide) (fun c_7 => ?_) (fun c_7 => ?_)
  · obtain ⟨h, g_h, h_h, rfl⟩ := inR_N (by decide) (by decide) c_7
    have e_h := ir_yes g_h h_h (by decide)
    refine lv_aload_n hx hb dX5_heat_12 rfl (lv_at hl 0 rfl) ?_
    refine va_get (D := D) (ci := 4) (v := .ref (am 10)) (C := RX5) (T := TX5) (N := 21) hx hb hts (iX5) hown hK hP 0 rfl rfl 17 (by decide) (hts _ (List.mem_cons_of_mem _ wt_617)) (fun _ h9 => h9) rfl dX5_heat_13 ?_
    refine lv_bipush (v := nI (6)) hx hb dX5_heat_16 (by decide) ?_
    refine n_iald hx hb hK hP 1 (f := g 10) rfl (by omega) dX5_heat_18 ?_
    refine n_tope (show nI (g 10 6) = nI (k 5) from congrArg nI (m6)) ?_
    refine lv_istore_n (lv' := [(2, .int (nI (k 5))), (0, .ref (am 0)), (1, .int (nI h))]) hx hb dX5_heat_19 rfl hl (by decide) rfl (fun ls hl => ?_)
    refine lv_aload_n hx hb dX5_heat_20 rfl (lv_at hl 1 rfl) ?_
    refine va_get (D := D) (ci := 4) (v := .ref (am 10)) (C := RX5) (T := TX5) (N := 21) hx hb hts (iX5) hown hK hP 0 rfl rfl 17 (by decide) (hts _ (List.mem_cons_of_mem _ wt_617)) (fun _ h9 => h9) rfl dX5_heat_21 ?_
    refine lv_bipush (v := nI (6)) hx hb dX5_heat_24 (by decide) ?_
    refine lv_iload_n hx hb dX5_heat_26 rfl (lv_at hl 2 rfl) ?_
    refine n_iast hx hb hK hP hD hS 1 (f := g 10) rfl (by omega) dX5_heat_27 (fun H locs hP hD hS => ?_)
    have hP : va_P D cls5 [(am 0, .inr (4, [.long (tr), .ref (am 1), .int (nI (j 0)), .ref (am 2), .ref (am 3), .ref (am 4), .ref (am 5), .ref (am 6), .ref (am 7), .ref (am 8), .ref (am 9), .int (nI (j 1)), .int (nI (j 2)), .int (nI (j 3)), .int (nI (j 4)), .int (fl), .int (bI (hh)), .ref (am 10), .ref (am 11), .ref (am 12), .int (nI (j 5))])), (am 10, .inl (G.1, 240, .inl (nF (va_up (g 10) 6 h))))] H := hP
    have hD : va_D A [(am 0, .inr (4, [.long (tr), .ref (am 1), .int (nI (j 0)), .ref (am 2), .ref (am 3), .ref (am 4), .ref (am 5), .ref (am 6), .ref (am 7), .ref (am 8), .ref (am 9), .int (nI (j 1)), .int (nI (j 2)), .int (nI (j 3)), .int (nI (j 4)), .int (fl), .int (bI (hh)), .ref (am 10), .ref (am 11), .ref (am 12), .int (nI (j 5))])), (am 10, .inl (G.1, 240, .inl (nF (va_up (g 10) 6 h))))] := hD
    refine lv_iload_n hx hb dX5_heat_28 rfl (lv_at hl 0 rfl) ?_
    exact wr_iret (va_up (g 10) 6 h) hx hb hr hlocks hAe hS dX5_heat_29 (hP) (by simp only [spHeat, e_h, Option.elim]; exact ⟨by trivial, reM_heat hN0 _⟩)
  · have e_h := ir_no c_7
    refine lv_iconst (v := (-1)) hx hb dX5_heat_10 (by decide) ?_
    exact wr_iret (g 10) hx hb hr hlocks hAe hS dX5_heat_11 (hP) (by simp only [spHeat, e_h, Option.elim]; exact ⟨by trivial, hN0⟩)

set_option maxHeartbeats 4000000 in
set_option maxRecDepth 100000 in
theorem c_X5_undo (l : Launch) (D : va_G) (G : ClassId × ClassId × ClassId) (H0 : Heap) (am n : Nat → Nat) (f : Nat → Nat → Nat) (k : Nat → Nat) (g : Nat → Nat → Nat) (j : Nat → Nat) (tx : Nat → Int32) (fl : Int32) (hh : Bool) (kp : Nat → Bool) (tr : Int64) (q : Nat) (hI : XI n f k q) (hM : RQ n f k g) : Met l yX5_undo (wM yX5_undo cX5_undo 3 (some .int)) (rmD 2) (wP D G [.ref (am 0)] [(am 0, .inr (4, [.long (tr), .ref (am 1), .int (nI (j 0)), .ref (am 2), .ref (am 3), .ref (am 4), .ref (am 5), .ref (am 6), .ref (am 7), .ref (am 8), .ref (am 9), .int (nI (j 1)), .int (nI (j 2)), .int (nI (j 3)), .int (nI (j 4)), .int (fl), .int (bI (hh)), .ref (am 10), .ref (am 11), .ref (am 12), .int (nI (j 5))])), (am 10, .inl (G.1, 240, .inl (nF (g 10))))] H0) (wQi (S := (Nat → Nat)) D (fun r u => r = (spUndo n f).1 ∧ reM (n 5) (g 10) u (spUndo n f).2.2 (spUndo n f).2.1 (f 8) (k 5)) [(am 0, .inr (4, [.long (tr), .ref (am 1), .int (nI (j 0)), .ref (am 2), .ref (am 3), .ref (am 4), .ref (am 5), .ref (am 6), .ref (am 7), .ref (am 8), .ref (am 9), .int (nI (j 1)), .int (nI (j 2)), .int (nI (j 3)), .int (nI (j 4)), .int (fl), .int (bI (hh)), .ref (am 10), .ref (am 11), .ref (am 12), .int (nI (j 5))])), (am 10, .inl (G.1, 240, .inl (nF (g 10))))] (fun u => [(am 0, .inr (4, [.long (tr), .ref (am 1), .int (nI (j 0)), .ref (am 2), .ref (am 3), .ref (am 4), .ref (am 5), .ref (am 6), .ref (am 7), .ref (am 8), .ref (am 9), .int (nI (j 1)), .int (nI (j 2)), .int (nI (j 3)), .int (nI (j 4)), .int (fl), .int (bI (hh)), .ref (am 10), .ref (am 11), .ref (am 12), .int (nI (j 5))])), (am 10, .inl (G.1, 240, .inl (nF (u))))]) H0) 0 0 (va_A [(am 0, .inr (4, [.long (tr), .ref (am 1), .int (nI (j 0)), .ref (am 2), .ref (am 3), .ref (am 4), .ref (am 5), .ref (am 6), .ref (am 7), .ref (am 8), .ref (am 9), .int (nI (j 1)), .int (nI (j 2)), .int (nI (j 3)), .int (nI (j 4)), .int (fl), .int (bI (hh)), .ref (am 10), .ref (am 11), .ref (am 12), .int (nI (j 5))])), (am 10, .inl (G.1, 240, .inl (nF (g 10))))] H0.size) := by
  refine wr_start (Qc := fun H0 => (wQi (S := (Nat → Nat)) D (fun r u => r = (spUndo n f).1 ∧ reM (n 5) (g 10) u (spUndo n f).2.2 (spUndo n f).2.1 (f 8) (k 5)) [(am 0, .inr (4, [.long (tr), .ref (am 1), .int (nI (j 0)), .ref (am 2), .ref (am 3), .ref (am 4), .ref (am 5), .ref (am 6), .ref (am 7), .ref (am 8), .ref (am 9), .int (nI (j 1)), .int (nI (j 2)), .int (nI (j 3)), .int (nI (j 4)), .int (fl), .int (bI (hh)), .ref (am 10), .ref (am 11), .ref (am 12), .int (nI (j 5))])), (am 10, .inl (G.1, 240, .inl (nF (g 10))))] (fun u => [(am 0, .inr (4, [.long (tr), .ref (am 1), .int (nI (j 0)), .ref (am 2), .ref (am 3), .ref (am 4), .ref (am 5), .ref (am 6), .ref (am 7), .ref (am 8), .ref (am 9), .int (nI (j 1)), .int (nI (j 2)), .int (nI (j 3)), .int (nI (j 4)), .int (fl), .int (bI (hh)), .ref (am 10), .ref (am 11), .ref (am 12), .int (nI (j 5))])), (am 10, .inl (G.1, 240, .inl (nF (u))))]) H0)) (by decide) (Nat.le_of_ble_eq_true rfl) ?_
  intro p e s m args below meth c hx hb hr hts hown hlocks hml hK A hAe hA hH0 ls hl H locs hP hD hS
  have hl : lv_has ls 3 [(0, .ref (am 0))] := hl
  have hI0 := hI
  have hM0 := hM
  obtain ⟨i4, i5, i6, iq, iw, il, i7, i8, ih9, ik, iF⟩ := hI
  obtain ⟨m2, m3, m4, m5, m0, m6, m7, m8⟩ := hM
  have hN0 : reM (n 5) (g 10) (g 10) (f 7) (n 8) (f 8) (k 5) := ⟨hM0.2.2.2.2, fun _ _ => rfl⟩
  refine lv_aload_n hx hb dX5_undo_0 rfl (lv_at hl 0 rfl) ?_
  refine va_get (D := D) (ci := 4) (v := .ref (am 10)) (C := RX5) (T := TX5) (N := 21) hx hb hts (iX5) hown hK hP 0 rfl rfl 17 (by decide) (hts _ (List.mem_cons_of_mem _ wt_617)) (fun _ h9 => h9) rfl dX5_undo_1 ?_
  refine lv_bipush (v := nI (7)) hx hb dX5_undo_4 (by decide) ?_
  refine n_iald hx hb hK hP 1 (f := g 10) rfl (by omega) dX5_undo_6 ?_
  refine n_tope (show nI (g 10 7) = nI (n 8) from congrArg nI (m7)) ?_
  refine n_if_ne (tgt := 13) hx hb dX5_undo_7 (by decide) (by omega) (fun c_7 => ?_) (fun c_7 => ?_)
  · have e0 := iF (n 8 - 1) (by omega)
    have e4 := ik _ e0.1
    refine lv_aload_n hx hb dX5_undo_13 rfl (lv_at hl 0 rfl) ?_
    refine va_get (D := D) (ci := 4) (v := .ref (am 10)) (C := RX5) (T := TX5) (N := 21) hx hb hts (iX5) hown hK hP 0 rfl rfl 17 (by decide) (hts _ (List.mem_cons_of_mem _ wt_617)) (fun _ h9 => h9) rfl dX5_undo_14 ?_
    refine lv_bipush (v := nI (7)) hx hb dX5_undo_17 (by decide) ?_
    refine lv_dup2_11 hx hb dX5_undo_19 rfl rfl ?_
    refine n_iald hx hb hK hP 1 (f := g 10) rfl (by omega) dX5_undo_20 ?_
    refine n_tope (show nI (g 10 7) = nI (n 8) from congrArg nI (m7)) ?_
    refine lv_iconst (v := nI (1)) hx hb dX5_undo_21 (by decide) ?_
    refine n_isub hx hb dX5_undo_22 (by omega) ?_
    refine n_iast hx hb hK hP hD hS 1 (f := g 10) rfl (by omega) dX5_undo_23 (fun H locs hP hD hS => ?_)
    have hP : va_P D cls5 [(am 0, .inr (4, [.long (tr), .ref (am 1), .int (nI (j 0)), .ref (am 2), .ref (am 3), .ref (am 4), .ref (am 5), .ref (am 6), .ref (am 7), .ref (am 8), .ref (am 9), .int (nI (j 1)), .int (nI (j 2)), .int (nI (j 3)), .int (nI (j 4)), .int (fl), .int (bI (hh)), .ref (am 10), .ref (am 11), .ref (am 12), .int (nI (j 5))])), (am 10, .inl (G.1, 240, .inl (nF (va_up (g 10) 7 ((n 8) - 1)))))] H := hP
    have hD : va_D A [(am 0, .inr (4, [.long (tr), .ref (am 1), .int (nI (j 0)), .ref (am 2), .ref (am 3), .ref (am 4), .ref (am 5), .ref (am 6), .ref (am 7), .ref (am 8), .ref (am 9), .int (nI (j 1)), .int (nI (j 2)), .int (nI (j 3)), .int (nI (j 4)), .int (fl), .int (bI (hh)), .ref (am 10), .ref (am 11), .ref (am 12), .int (nI (j 5))])), (am 10, .inl (G.1, 240, .inl (nF (va_up (g 10) 7 ((n 8) - 1)))))] := hD
    refine lv_bipush (v := nI (8)) hx hb dX5_undo_24 (by decide) ?_
    refine lv_bipush (v := nI (6)) hx hb dX5_undo_26 (by decide) ?_
    refine lv_aload_n hx hb dX5_undo_28 rfl (lv_at hl 0 rfl) ?_
    refine va_get (D := D) (ci := 4) (v := .ref (am 10)) (C := RX5) (T := TX5) (N := 21) hx hb hts (iX5) hown hK hP 0 rfl rfl 17 (by decide) (hts _ (List.mem_cons_of_mem _ wt_617)) (fun _ h9 => h9) rfl dX5_undo_29 ?_
    refine lv_bipush (v := nI (7)) hx hb dX5_undo_32 (by decide) ?_
    refine n_iald hx hb hK hP 1 (f := va_up (g 10) 7 ((n 8) - 1)) rfl (by omega) dX5_undo_34 ?_
    refine n_tope (show nI ((va_up (g 10) 7 ((n 8) - 1)) 7) = nI (n 8 - 1) from congrArg nI (by simp [va_up])) ?_
    refine n_imul hx hb dX5_undo_35 ?_
    refine n_iadd hx hb dX5_undo_36 ?_
    refine lv_istore_n (lv' := [(1, .int (nI (8 + (6 * (n 8 - 1))))), (0, .ref (am 0))]) hx hb dX5_undo_37 rfl hl (by decide) rfl (fun ls hl => ?_)
    refine lv_aload_n hx hb dX5_undo_38 rfl (lv_at hl 1 rfl) ?_
    refine va_get (D := D) (ci := 4) (v := .ref (am 10)) (C := RX5) (T := TX5) (N := 21) hx hb hts (iX5) hown hK hP 0 rfl rfl 17 (by decide) (hts _ (List.mem_cons_of_mem _ wt_617)) (fun _ h9 => h9) rfl dX5_undo_39 ?_
    refine lv_iload_n hx hb dX5_undo_42 rfl (lv_at hl 0 rfl) ?_
    refine n_iald hx hb hK hP 1 (f := va_up (g 10) 7 ((n 8) - 1)) rfl (by omega) dX5_undo_43 ?_
    refine n_tope (show nI ((va_up (g 10) 7 ((n 8) - 1)) (8 + (6 * (n 8 - 1)))) = nI (f 8 (6 * (n 8 - 1) + 0)) from congrArg nI ((va_up_ne _ _ (by omega)).trans (m8 (6 * (n 8 - 1) + 0) (by omega)))) ?_
    refine lv_istore_n (lv' := [(2, .int (nI (f 8 (6 * (n 8 - 1) + 0)))), (1, .int (nI (8 + (6 * (n 8 - 1))))), (0, .ref (am 0))]) hx hb dX5_undo_44 rfl hl (by decide) rfl (fun ls hl => ?_)
    refine lv_aload_n hx hb dX5_undo_45 rfl (lv_at hl 2 rfl) ?_
    refine va_get (D := D) (ci := 4) (v := .ref (am 10)) (C := RX5) (T := TX5) (N := 21) hx hb hts (iX5) hown hK hP 0 rfl rfl 17 (by decide) (hts _ (List.mem_cons_of_mem _ wt_617)) (fun _ h9 => h9) rfl dX5_undo_46 ?_
    refine lv_iload_n hx hb dX5_undo_49 rfl (lv_at hl 0 rfl) ?_
    refine lv_dup2_11 hx hb dX5_undo_50 rfl rfl ?_
    refine n_iald hx hb hK hP 1 (f := va_up (g 10) 7 ((n 8) - 1)) rfl (by omega) dX5_undo_51 ?_
    refine n_tope (show nI ((va_up (g 10) 7 ((n 8) - 1)) (f 8 (6 * (n 8 - 1) + 0))) = nI (f 7 (f 8 (6 * (n 8 - 1) + 0))) from congrArg nI ((upn (by simp only [va_up]; rw [if_neg (by omega)])).trans ((m0 _ (by omega)).trans (if_pos e0.1)))) ?_
    refine lv_aload_n hx hb dX5_undo_52 rfl (lv_at hl 2 rfl) ?_
    refine va_get (D := D) (ci := 4) (v := .ref (am 10)) (C := RX5) (T := TX5) (N := 21) hx hb hts (iX5) hown hK hP 0 rfl rfl 17 (by decide) (hts _ (List.mem_cons_of_mem _ wt_617)) (fun _ h9 => h9) rfl dX5_undo_53 ?_
    refine lv_iload_n hx hb dX5_undo_56 rfl (lv_at hl 1 rfl) ?_
    refine lv_iconst (v := nI (5)) hx hb dX5_undo_57 (by decide) ?_
    refine n_iadd hx hb dX5_undo_58 ?_
    refine n_iald hx hb hK hP 1 (f := va_up (g 10) 7 ((n 8) - 1)) rfl (by omega) dX5_undo_59 ?_
    refine n_tope (show nI ((va_up (g 10) 7 ((n 8) - 1)) ((8 + (6 * (n 8 - 1))) + 5)) = nI (f 8 (6 * (n 8 - 1) + 5)) from congrArg nI ((upn (by simp only [va_up]; rw [if_neg (by omega)])).trans ((congrArg (g 10) (show 8 + 6 * (n 8 - 1) + 5 = 8 + (6 * (n 8 - 1) + 5) by omega)).trans (m8 _ (by omega))))) ?_
    refine n_if_ne (tgt := 76) hx hb dX5_undo_60 (by decide) (by omega) (fun c_60 => ?_) (fun c_60 => ?_)
    · refine lv_iconst (v := nI (0)) hx hb dX5_undo_76 (by decide) ?_
      refine n_isub hx hb dX5_undo_77 (by omega) ?_
      refine n_iast hx hb hK hP hD hS 1 (f := va_up (g 10) 7 ((n 8) - 1)) rfl (by omega) dX5_undo_78 (fun H locs hP hD hS => ?_)
      have hP : va_P D cls5 [(am 0, .inr (4, [.long (tr), .ref (am 1), .int (nI (j 0)), .ref (am 2), .ref (am 3), .ref (am 4), .ref (am 5), .ref (am 6), .ref (am 7), .ref (am 8), .ref (am 9), .int (nI (j 1)), .int (nI (j 2)), .int (nI (j 3)), .int (nI (j 4)), .int (fl), .int (bI (hh)), .ref (am 10), .ref (am 11), .ref (am 12), .int (nI (j 5))])), (am 10, .inl (G.1, 240, .inl (nF (va_up (va_up (g 10) 7 ((n 8) - 1)) (f 8 (6 * (n 8 - 1) + 0)) ((f 7 (f 8 (6 * (n 8 - 1) + 0))) - 0)))))] H := hP
      have hD : va_D A [(am 0, .inr (4, [.long (tr), .ref (am 1), .int (nI (j 0)), .ref (am 2), .ref (am 3), .ref (am 4), .ref (am 5), .ref (am 6), .ref (am 7), .ref (am 8), .ref (am 9), .int (nI (j 1)), .int (nI (j 2)), .int (nI (j 3)), .int (nI (j 4)), .int (fl), .int (bI (hh)), .ref (am 10), .ref (am 11), .ref (am 12), .int (nI (j 5))])), (am 10, .inl (G.1, 240, .inl (nF (va_up (va_up (g 10) 7 ((n 8) - 1)) (f 8 (6 * (n 8 - 1) + 0)) ((f 7 (f 8 (6 * (n 8 - 1) + 0))) - 0)))))] := hD
      refine lv_aload_n hx hb dX5_undo_79 rfl (lv_at hl 2 rfl) ?_
      refine va_get (D := D) (ci := 4) (v := .ref (am 10)) (C := RX5) (T := TX5) (N := 21) hx hb hts (iX5) hown hK hP 0 rfl rfl 17 (by decide) (hts _ (List.mem_cons_of_mem _ wt_617)) (fun _ h9 => h9) rfl dX5_undo_80 ?_
      refine lv_bipush (v := nI (7)) hx hb dX5_undo_83 (by decide) ?_
      refine n_iald hx hb hK hP 1 (f := va_up (va_up (g 10) 7 ((n 8) - 1)) (f 8 (6 * (n 8 - 1) + 0)) ((f 7 (f 8 (6 * (n 8 - 1) + 0))) - 0)) rfl (by omega) dX5_undo_85 ?_
      refine n_tope (show nI ((va_up (va_up (g 10) 7 ((n 8) - 1)) (f 8 (6 * (n 8 - 1) + 0)) ((f 7 (f 8 (6 * (n 8 - 1) + 0))) - 0)) 7) = nI (n 8 - 1) from congrArg nI (by simp only [va_up]; rw [if_neg (by omega)]; simp)) ?_
      exact wr_iret (va_up (va_up (g 10) 7 ((n 8) - 1)) (f 8 (6 * (n 8 - 1) + 0)) ((f 7 (f 8 (6 * (n 8 - 1) + 0))) - 0)) hx hb hr hlocks hAe hS dX5_undo_86 (hP) (by rw [spUndo, if_neg c_7]; refine ⟨rfl, reM_eq (reM_lick (reM_less hN0 (by omega)) e0.1 (by omega) _) (fun v hv => ?_)⟩; simp only [if_neg c_60, va_up]; by_cases e : v = f 8 (6 * (n 8 - 1) + 0); rw [if_pos e, e]; omega; rw [if_neg e])
    · refine lv_aload_n hx hb dX5_undo_63 rfl (lv_at hl 2 rfl) ?_
      refine va_get (D := D) (ci := 4) (v := .ref (am 10)) (C := RX5) (T := TX5) (N := 21) hx hb hts (iX5) hown hK hP 0 rfl rfl 17 (by decide) (hts _ (List.mem_cons_of_mem _ wt_617)) (fun _ h9 => h9) rfl dX5_undo_64 ?_
      refine lv_iload_n hx hb dX5_undo_67 rfl (lv_at hl 0 rfl) ?_
      refine n_iald hx hb hK hP 1 (f := va_up (g 10) 7 ((n 8) - 1)) rfl (by omega) dX5_undo_68 ?_
      refine n_tope (show nI ((va_up (g 10) 7 ((n 8) - 1)) (f 8 (6 * (n 8 - 1) + 0))) = nI (f 7 (f 8 (6 * (n 8 - 1) + 0))) from congrArg nI ((upn (by simp only [va_up]; rw [if_neg (by omega)])).trans ((m0 _ (by omega)).trans (if_pos e0.1)))) ?_
      refine n_if_le (tgt := 76) hx hb dX5_undo_69 (by decide) (by omega) (fun c_69 => ?_) (fun c_69 => ?_)
      · refine lv_iconst (v := nI (0)) hx hb dX5_undo_76 (by decide) ?_
        refine n_isub hx hb dX5_undo_77 (by omega) ?_
        refine n_iast hx hb hK hP hD hS 1 (f := va_up (g 10) 7 ((n 8) - 1)) rfl (by omega) dX5_undo_78 (fun H locs hP hD hS => ?_)
        have hP : va_P D cls5 [(am 0, .inr (4, [.long (tr), .ref (am 1), .int (nI (j 0)), .ref (am 2), .ref (am 3), .ref (am 4), .ref (am 5), .ref (am 6), .ref (am 7), .ref (am 8), .ref (am 9), .int (nI (j 1)), .int (nI (j 2)), .int (nI (j 3)), .int (nI (j 4)), .int (fl), .int (bI (hh)), .ref (am 10), .ref (am 11), .ref (am 12), .int (nI (j 5))])), (am 10, .inl (G.1, 240, .inl (nF (va_up (va_up (g 10) 7 ((n 8) - 1)) (f 8 (6 * (n 8 - 1) + 0)) ((f 7 (f 8 (6 * (n 8 - 1) + 0))) - 0)))))] H := hP
        have hD : va_D A [(am 0, .inr (4, [.long (tr), .ref (am 1), .int (nI (j 0)), .ref (am 2), .ref (am 3), .ref (am 4), .ref (am 5), .ref (am 6), .ref (am 7), .ref (am 8), .ref (am 9), .int (nI (j 1)), .int (nI (j 2)), .int (nI (j 3)), .int (nI (j 4)), .int (fl), .int (bI (hh)), .ref (am 10), .ref (am 11), .ref (am 12), .int (nI (j 5))])), (am 10, .inl (G.1, 240, .inl (nF (va_up (va_up (g 10) 7 ((n 8) - 1)) (f 8 (6 * (n 8 - 1) + 0)) ((f 7 (f 8 (6 * (n 8 - 1) + 0))) - 0)))))] := hD
        refine lv_aload_n hx hb dX5_undo_79 rfl (lv_at hl 2 rfl) ?_
        refine va_get (D := D) (ci := 4) (v := .ref (am 10)) (C := RX5) (T := TX5) (N := 21) hx hb hts (iX5) hown hK hP 0 rfl rfl 17 (by decide) (hts _ (List.mem_cons_of_mem _ wt_617)) (fun _ h9 => h9) rfl dX5_undo_80 ?_
        refine lv_bipush (v := nI (7)) hx hb dX5_undo_83 (by decide) ?_
        refine n_iald hx hb hK hP 1 (f := va_up (va_up (g 10) 7 ((n 8) - 1)) (f 8 (6 * (n 8 - 1) + 0)) ((f 7 (f 8 (6 * (n 8 - 1) + 0))) - 0)) rfl (by omega) dX5_undo_85 ?_
        refine n_tope (show nI ((va_up (va_up (g 10) 7 ((n 8) - 1)) (f 8 (6 * (n 8 - 1) + 0)) ((f 7 (f 8 (6 * (n 8 - 1) + 0))) - 0)) 7) = nI (n 8 - 1) from congrArg nI (by simp only [va_up]; rw [if_neg (by omega)]; simp)) ?_
        exact wr_iret (va_up (va_up (g 10) 7 ((n 8) - 1)) (f 8 (6 * (n 8 - 1) + 0)) ((f 7 (f 8 (6 * (n 8 - 1) + 0))) - 0)) hx hb hr hlocks hAe hS dX5_undo_86 (hP) (by rw [spUndo, if_neg c_7]; refine ⟨rfl, reM_eq (reM_lick (reM_less hN0 (by omega)) e0.1 (by omega) _) (fun v hv => ?_)⟩; simp only [if_pos c_60, va_up] <;> (by_cases e : v = f 8 (6 * (n 8 - 1) + 0); (rw [if_pos e, if_pos e] <;> omega); rw [if_neg e, if_neg e]))
      · refine lv_iconst (v := nI (1)) hx hb dX5_undo_72 (by decide) ?_
        refine lv_goto (tgt := 77) hx hb dX5_undo_73 (by decide) ?_
        refine n_isub hx hb dX5_undo_77 (by omega) ?_
        refine n_iast hx hb hK hP hD hS 1 (f := va_up (g 10) 7 ((n 8) - 1)) rfl (by omega) dX5_undo_78 (fun H locs hP hD hS => ?_)
        have hP : va_P D cls5 [(am 0, .inr (4, [.long (tr), .ref (am 1), .int (nI (j 0)), .ref (am 2), .ref (am 3), .ref (am 4), .ref (am 5), .ref (am 6), .ref (am 7), .ref (am 8), .ref (am 9), .int (nI (j 1)), .int (nI (j 2)), .int (nI (j 3)), .int (nI (j 4)), .int (fl), .int (bI (hh)), .ref (am 10), .ref (am 11), .ref (am 12), .int (nI (j 5))])), (am 10, .inl (G.1, 240, .inl (nF (va_up (va_up (g 10) 7 ((n 8) - 1)) (f 8 (6 * (n 8 - 1) + 0)) ((f 7 (f 8 (6 * (n 8 - 1) + 0))) - 1)))))] H := hP
        have hD : va_D A [(am 0, .inr (4, [.long (tr), .ref (am 1), .int (nI (j 0)), .ref (am 2), .ref (am 3), .ref (am 4), .ref (am 5), .ref (am 6), .ref (am 7), .ref (am 8), .ref (am 9), .int (nI (j 1)), .int (nI (j 2)), .int (nI (j 3)), .int (nI (j 4)), .int (fl), .int (bI (hh)), .ref (am 10), .ref (am 11), .ref (am 12), .int (nI (j 5))])), (am 10, .inl (G.1, 240, .inl (nF (va_up (va_up (g 10) 7 ((n 8) - 1)) (f 8 (6 * (n 8 - 1) + 0)) ((f 7 (f 8 (6 * (n 8 - 1) + 0))) - 1)))))] := hD
        refine lv_aload_n hx hb dX5_undo_79 rfl (lv_at hl 2 rfl) ?_
        refine va_get (D := D) (ci := 4) (v := .ref (am 10)) (C := RX5) (T := TX5) (N := 21) hx hb hts (iX5) hown hK hP 0 rfl rfl 17 (by decide) (hts _ (List.mem_cons_of_mem _ wt_617)) (fun _ h9 => h9) rfl dX5_undo_80 ?_
        refine lv_bipush (v := nI (7)) hx hb dX5_undo_83 (by decide) ?_
        refine n_iald hx hb hK hP 1 (f := va_up (va_up (g 10) 7 ((n 8) - 1)) (f 8 (6 * (n 8 - 1) + 0)) ((f 7 (f 8 (6 * (n 8 - 1) + 0))) - 1)) rfl (by omega) dX5_undo_85 ?_
        refine n_tope (show nI ((va_up (va_up (g 10) 7 ((n 8) - 1)) (f 8 (6 * (n 8 - 1) + 0)) ((f 7 (f 8 (6 * (n 8 - 1) + 0))) - 1)) 7) = nI (n 8 - 1) from congrArg nI (by simp only [va_up]; rw [if_neg (by omega)]; simp)) ?_
        exact wr_iret (va_up (va_up (g 10) 7 ((n 8) - 1)) (f 8 (6 * (n 8 - 1) + 0)) ((f 7 (f 8 (6 * (n 8 - 1) + 0))) - 1)) hx hb hr hlocks hAe hS dX5_undo_86 (hP) (by rw [spUndo, if_neg c_7]; refine ⟨rfl, reM_eq (reM_lick (reM_less hN0 (by omega)) e0.1 (by omega) _) (fun v hv => ?_)⟩; simp only [if_pos c_60, va_up] <;> (by_cases e : v = f 8 (6 * (n 8 - 1) + 0); (rw [if_pos e, if_pos e] <;> omega); rw [if_neg e, if_neg e]))
  · refine lv_bipush (v := (-2)) hx hb dX5_undo_10 (by decide) ?_
    exact wr_iret (g 10) hx hb hr hlocks hAe hS dX5_undo_12 (hP) (by rw [spUndo, if_pos c_7]; exact ⟨by trivial, hN0⟩)
