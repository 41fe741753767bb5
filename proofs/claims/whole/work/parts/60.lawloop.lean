set_option maxHeartbeats 4000000 in
set_option maxRecDepth 100000 in
theorem law_loop {p : Program} {l : Launch} {e : Env} {s : State} {m : MethodId} {sb : Nat} {below : List Frame} {meth : Method} {c : Code} {D : va_G} {G : ClassId × ClassId × ClassId} {A : Nat → Prop} {ad am : Nat → Nat} {K : (Nat → Nat) × (Nat → Nat)} {L : Nat} {xs : Nat → Int32} (C0 : lw_At p s m meth c sb L xs) (hAe : A = fun q : Nat => s.heap.size ≤ q) (hK : va_K D cls5 (tys3 G) s) (hZ : ZS K A s s.heap) (hL : L ≤ 3072) : ∀ fuel i q : Nat, L - i < fuel → 6 * q = i → i ≤ L → LGo p l e s m sb below meth c D G A ad am i q 18 := by
  intro fuel
  induction fuel with
  | zero => intro i q h _ _; exact absurd h (Nat.not_lt_zero _)
  | succ fuel ih =>
    intro i q hfu hiq hil
    obtain ⟨hx, hb, hr, hml, hown, hts, hX, hbl, hlocks, hgv⟩ := id C0
    have hbA : ¬ A sb := by rw [hAe]; exact Nat.not_le.mpr hbl
    intro n f k b v tr j fl hh g tx kp hLI H locs hP hD hS ls hl
    refine lv_iload_n hx hb dL_law_18 rfl (lv_at hl 3 rfl) ?_
    refine lv_aload_n hx hb dL_law_19 rfl (lv_at hl 0 rfl) ?_
    refine va_slen hx hb hX hbl hbA hS dL_law_20 ?_
    refine n_tope (show Int32.ofNat L = nI L from rfl) ?_
    refine lv_bipush (v := nI 6) hx hb dL_law_21 (by decide) ?_
    refine lv_isub hx hb dL_law_23 ?_
    refine lv_icmp_gt (tgt := 1031) hx hb dL_law_24 (by decide) (fun c_24 => ?_) (fun c_24 => ?_)
    · refine lv_iconst (v := 1) hx hb dL_law_1031 (by decide) ?_
      refine va_forget (fun z hz => by have h9 := hS.2.2 z hz; rw [hAe] at h9; exact h9) ?_
      exact lw_ret hx hb hr hlocks dL_law_1032
    · have hi6 : i + 6 ≤ L := by
        rw [Int32.lt_iff_toInt_lt, pk_sub_toInt (by omega) (by decide), nI_toInt (by omega)] at c_24
        omega
      have hq : q + 1 ≤ 4000 := by omega
      refine lv_aload_n hx hb dL_law_27 rfl (lv_at hl 0 rfl) ?_
      refine lv_iload_n hx hb dL_law_28 rfl (lv_at hl 3 rfl) ?_
      refine va_sld hx hb hX hbl hbA hS (vp_in_nI (show i < L by omega) (by omega)) dL_law_29 ?_
      refine lv_bipush (v := nI 31) hx hb dL_law_30 (by decide) ?_
      refine lv_iand hx hb dL_law_32 ?_
      obtain ⟨w, hw, hw2⟩ := pk_andE (xs (nI i).toNatClampNeg) (m := nI 31) 5 (by decide +kernel)
      refine n_tope hw2 ?_
      have hw : w < 32 := hw
      have kk : LGo p l e s m sb below meth c D G A ad am i (q + 1) 1025 := by
        intro n f k b v tr j fl hh g tx kp hLI H locs hP hD hS ls hl
        refine lv_iinc (v := nI (i + 6)) (lv' := [(3, .int (nI (i + 6))), (0, .ref (sb)), (1, .ref (ad 0)), (2, .ref (am 0))]) hx hb dL_law_1025 hl (k := 3) rfl (nI_inc _ _) (by decide) rfl (fun ls hl => ?_)
        refine lv_goto (tgt := 18) hx hb dL_law_1028 (by decide) ?_
        exact ih (i + 6) (q + 1) (by omega) (by omega) hi6 n f k b v tr j fl hh g tx kp hLI H locs hP hD hS ls (lv_sub hl [1, 2, 3, 0] rfl)
      rcases (show w = 0 ∨ w = 1 ∨ w = 2 ∨ w = 3 ∨ w = 4 ∨ w = 5 ∨ w = 6 ∨ w = 7 ∨ w = 8 ∨ w = 9 ∨ w = 10 ∨ w = 11 ∨ w = 12 ∨ w = 13 ∨ w = 14 ∨ w = 15 ∨ w = 16 ∨ w = 17 ∨ w = 18 ∨ w = 19 ∨ w = 20 ∨ w = 21 ∨ w = 22 ∨ w = 23 ∨ w = 24 ∨ w = 25 ∨ w = 26 ∨ w = 27 ∨ w = 28 ∨ w = 29 ∨ w = 30 ∨ w = 31 by omega) with rfl | rfl | rfl | rfl | rfl | rfl | rfl | rfl | rfl | rfl | rfl | rfl | rfl | rfl | rfl | rfl | rfl | rfl | rfl | rfl | rfl | rfl | rfl | rfl | rfl | rfl | rfl | rfl | rfl | rfl | rfl | rfl
      · refine lv_tableIn (off := 127) (tgt := 160) hx hb dL_law_33 (by decide) (by decide) (by decide) (by decide) ?_
        exact lc_0 C0 hAe hK hZ hi6 hL hq kk n f k b v tr j fl hh g tx kp hLI H locs hP hD hS ls hl
      · refine lv_tableIn (off := 190) (tgt := 223) hx hb dL_law_33 (by decide) (by decide) (by decide) (by decide) ?_
        exact lc_1 C0 hAe hK hZ hi6 hL hq kk n f k b v tr j fl hh g tx kp hLI H locs hP hD hS ls hl
      · refine lv_tableIn (off := 203) (tgt := 236) hx hb dL_law_33 (by decide) (by decide) (by decide) (by decide) ?_
        exact lc_2 C0 hAe hK hZ hi6 hL hq kk n f k b v tr j fl hh g tx kp hLI H locs hP hD hS ls hl
      · refine lv_tableIn (off := 216) (tgt := 249) hx hb dL_law_33 (by decide) (by decide) (by decide) (by decide) ?_
        exact lc_3 C0 hAe hK hZ hi6 hL hq kk n f k b v tr j fl hh g tx kp hLI H locs hP hD hS ls hl
      · refine lv_tableIn (off := 239) (tgt := 272) hx hb dL_law_33 (by decide) (by decide) (by decide) (by decide) ?_
        exact lc_4 C0 hAe hK hZ hi6 hL hq kk n f k b v tr j fl hh g tx kp hLI H locs hP hD hS ls hl
      · refine lv_tableIn (off := 272) (tgt := 305) hx hb dL_law_33 (by decide) (by decide) (by decide) (by decide) ?_
        exact lc_5 C0 hAe hK hZ hi6 hL hq kk n f k b v tr j fl hh g tx kp hLI H locs hP hD hS ls hl
      · refine lv_tableIn (off := 315) (tgt := 348) hx hb dL_law_33 (by decide) (by decide) (by decide) (by decide) ?_
        exact lc_6 C0 hAe hK hZ hi6 hL hq kk n f k b v tr j fl hh g tx kp hLI H locs hP hD hS ls hl
      · refine lv_tableIn (off := 348) (tgt := 381) hx hb dL_law_33 (by decide) (by decide) (by decide) (by decide) ?_
        exact lc_7 C0 hAe hK hZ hi6 hL hq kk n f k b v tr j fl hh g tx kp hLI H locs hP hD hS ls hl
      · refine lv_tableIn (off := 391) (tgt := 424) hx hb dL_law_33 (by decide) (by decide) (by decide) (by decide) ?_
        exact lc_8 C0 hAe hK hZ hi6 hL hq kk n f k b v tr j fl hh g tx kp hLI H locs hP hD hS ls hl
      · refine lv_tableIn (off := 454) (tgt := 487) hx hb dL_law_33 (by decide) (by decide) (by decide) (by decide) ?_
        exact lc_9 C0 hAe hK hZ hi6 hL hq kk n f k b v tr j fl hh g tx kp hLI H locs hP hD hS ls hl
      · refine lv_tableIn (off := 467) (tgt := 500) hx hb dL_law_33 (by decide) (by decide) (by decide) (by decide) ?_
        exact lc_10 C0 hAe hK hZ hi6 hL hq kk n f k b v tr j fl hh g tx kp hLI H locs hP hD hS ls hl
      · refine lv_tableIn (off := 490) (tgt := 523) hx hb dL_law_33 (by decide) (by decide) (by decide) (by decide) ?_
        exact lc_11 C0 hAe hK hZ hi6 hL hq kk n f k b v tr j fl hh g tx kp hLI H locs hP hD hS ls hl
      · refine lv_tableIn (off := 503) (tgt := 536) hx hb dL_law_33 (by decide) (by decide) (by decide) (by decide) ?_
        exact lc_12 C0 hAe hK hZ hi6 hL hq kk n f k b v tr j fl hh g tx kp hLI H locs hP hD hS ls hl
      · refine lv_tableIn (off := 536) (tgt := 569) hx hb dL_law_33 (by decide) (by decide) (by decide) (by decide) ?_
        exact lc_13 C0 hAe hK hZ hi6 hL hq kk n f k b v tr j fl hh g tx kp hLI H locs hP hD hS ls hl
      · refine lv_tableIn (off := 569) (tgt := 602) hx hb dL_law_33 (by decide) (by decide) (by decide) (by decide) ?_
        exact lc_14 C0 hAe hK hZ hi6 hL hq kk n f k b v tr j fl hh g tx kp hLI H locs hP hD hS ls hl
      · refine lv_tableIn (off := 602) (tgt := 635) hx hb dL_law_33 (by decide) (by decide) (by decide) (by decide) ?_
        exact lc_15 C0 hAe hK hZ hi6 hL hq kk n f k b v tr j fl hh g tx kp hLI H locs hP hD hS ls hl
      · refine lv_tableIn (off := 635) (tgt := 668) hx hb dL_law_33 (by decide) (by decide) (by decide) (by decide) ?_
        exact lc_16 C0 hAe hK hZ hi6 hL hq kk n f k b v tr j fl hh g tx kp hLI H locs hP hD hS ls hl
      · refine lv_tableIn (off := 668) (tgt := 701) hx hb dL_law_33 (by decide) (by decide) (by decide) (by decide) ?_
        exact lc_17 C0 hAe hK hZ hi6 hL hq kk n f k b v tr j fl hh g tx kp hLI H locs hP hD hS ls hl
      · refine lv_tableIn (off := 721) (tgt := 754) hx hb dL_law_33 (by decide) (by decide) (by decide) (by decide) ?_
        exact lc_18 C0 hAe hK hZ hi6 hL hq kk n f k b v tr j fl hh g tx kp hLI H locs hP hD hS ls hl
      · refine lv_tableIn (off := 734) (tgt := 767) hx hb dL_law_33 (by decide) (by decide) (by decide) (by decide) ?_
        exact lc_19 C0 hAe hK hZ hi6 hL hq kk n f k b v tr j fl hh g tx kp hLI H locs hP hD hS ls hl
      · refine lv_tableIn (off := 757) (tgt := 790) hx hb dL_law_33 (by decide) (by decide) (by decide) (by decide) ?_
        exact lc_20 C0 hAe hK hZ hi6 hL hq kk n f k b v tr j fl hh g tx kp hLI H locs hP hD hS ls hl
      · refine lv_tableIn (off := 810) (tgt := 843) hx hb dL_law_33 (by decide) (by decide) (by decide) (by decide) ?_
        exact lc_21 C0 hAe hK hZ hi6 hL hq kk n f k b v tr j fl hh g tx kp hLI H locs hP hD hS ls hl
      · refine lv_tableIn (off := 823) (tgt := 856) hx hb dL_law_33 (by decide) (by decide) (by decide) (by decide) ?_
        exact lc_22 C0 hAe hK hZ hi6 hL hq kk n f k b v tr j fl hh g tx kp hLI H locs hP hD hS ls hl
      · refine lv_tableIn (off := 876) (tgt := 909) hx hb dL_law_33 (by decide) (by decide) (by decide) (by decide) ?_
        exact lc_23 C0 hAe hK hZ hi6 hL hq kk n f k b v tr j fl hh g tx kp hLI H locs hP hD hS ls hl
      · refine lv_tableIn (off := 909) (tgt := 942) hx hb dL_law_33 (by decide) (by decide) (by decide) (by decide) ?_
        exact lc_24 C0 hAe hK hZ hi6 hL hq kk n f k b v tr j fl hh g tx kp hLI H locs hP hD hS ls hl
      · refine lv_tableIn (off := 932) (tgt := 965) hx hb dL_law_33 (by decide) (by decide) (by decide) (by decide) ?_
        exact lc_25 C0 hAe hK hZ hi6 hL hq kk n f k b v tr j fl hh g tx kp hLI H locs hP hD hS ls hl
      · refine lv_tableIn (off := 955) (tgt := 988) hx hb dL_law_33 (by decide) (by decide) (by decide) (by decide) ?_
        exact lc_26 C0 hAe hK hZ hi6 hL hq kk n f k b v tr j fl hh g tx kp hLI H locs hP hD hS ls hl
      · refine lv_tableIn (off := 978) (tgt := 1011) hx hb dL_law_33 (by decide) (by decide) (by decide) (by decide) ?_
        exact lc_27 C0 hAe hK hZ hi6 hL hq kk n f k b v tr j fl hh g tx kp hLI H locs hP hD hS ls hl
      · refine lv_tableOut (tgt := 1025) hx hb dL_law_33 (by decide) (by decide) ?_
        exact kk n f k b v tr j fl hh g tx kp (LI_mono hLI (Nat.le_succ q) hq) H locs hP hD hS ls hl
      · refine lv_tableOut (tgt := 1025) hx hb dL_law_33 (by decide) (by decide) ?_
        exact kk n f k b v tr j fl hh g tx kp (LI_mono hLI (Nat.le_succ q) hq) H locs hP hD hS ls hl
      · refine lv_tableOut (tgt := 1025) hx hb dL_law_33 (by decide) (by decide) ?_
        exact kk n f k b v tr j fl hh g tx kp (LI_mono hLI (Nat.le_succ q) hq) H locs hP hD hS ls hl
      · refine lv_tableOut (tgt := 1025) hx hb dL_law_33 (by decide) (by decide) ?_
        exact kk n f k b v tr j fl hh g tx kp (LI_mono hLI (Nat.le_succ q) hq) H locs hP hD hS ls hl
