set_option maxHeartbeats 4000000 in
set_option maxRecDepth 100000 in
theorem c_J0_coder_7d493 (l : Launch) (D : va_G) (G : ClassId × ClassId × ClassId) (K : (Nat → Nat) × (Nat → Nat)) (H0 : Heap) (i : Nat) (hi : i < 3) : Met l yJ0_coder_7d493 (wM yJ0_coder_7d493 cJ0_coder_7d493 1 (some .byte)) (rmD 1) (zrP D G K [.ref (K.1 i)] [] H0) (rQi (nI 0) H0) 0 0 (rF H0) := by
  refine zr_start (Qc := fun H0 => (rQi (nI 0) H0)) (by decide) (Nat.le_of_ble_eq_true rfl) ?_
  intro p e s m args below meth c hx hb hr hts hown hlocks hml hP hK hA hH0 ls hl locs hS hZ
  have hl : lv_has ls 1 [(0, .ref (K.1 i))] := hl
  refine va_gets hx hb hZ.2.1 hS hown (hts _ (List.mem_cons_of_mem _ wt_260)) (fun _ h9 => h9) dJ0_coder_7d493_0 ?_
  refine n_tope (show (1 : Int32) = nI 1 from rfl) ?_
  refine n_if_eq (tgt := 13) hx hb dJ0_coder_7d493_3 (by decide) (by omega) (fun c_3 => ?_) (fun c_3 => ?_)
  · exact absurd c_3 (by decide)
  · refine lv_aload_n hx hb dJ0_coder_7d493_6 rfl (lv_at hl 0 rfl) ?_
    refine vk_getf hx hb (hZ.1.1 i (by omega)).2.1 hS hown (hts _ (List.mem_cons_of_mem _ wt_888)) (fun _ h9 => h9) dJ0_coder_7d493_7 ?_
    refine n_tope (show (0 : Int32) = nI 0 from rfl) ?_
    refine lv_goto (tgt := 14) hx hb dJ0_coder_7d493_10 (by decide) ?_
    exact ro_xret hx hb hr hlocks hS dJ0_coder_7d493_14 rfl (rfl)

set_option maxHeartbeats 4000000 in
set_option maxRecDepth 100000 in
theorem c_J0_length_8abf5 (l : Launch) (D : va_G) (G : ClassId × ClassId × ClassId) (K : (Nat → Nat) × (Nat → Nat)) (H0 : Heap) (i : Nat) (hi : i < 3) : Met l yJ0_length_8abf5 (wM yJ0_length_8abf5 cJ0_length_8abf5 1 (some .int)) (rmD 2) (zrP D G K [.ref (K.1 i)] [] H0) (rQi (nI (lenW.getD i 0)) H0) 0 0 (rF H0) := by
  refine zr_start (Qc := fun H0 => (rQi (nI (lenW.getD i 0)) H0)) (by decide) (Nat.le_of_ble_eq_true rfl) ?_
  intro p e s m args below meth c hx hb hr hts hown hlocks hml hP hK hA hH0 ls hl locs hS hZ
  have hl : lv_has ls 1 [(0, .ref (K.1 i))] := hl
  refine lv_aload_n hx hb dJ0_length_8abf5_0 rfl (lv_at hl 0 rfl) ?_
  refine vk_getf hx hb (hZ.1.1 i (by omega)).2.2.1 hS hown (hts _ (List.mem_cons_of_mem _ wt_887)) (fun _ h9 => h9) dJ0_length_8abf5_1 ?_
  refine va_tlen (v := nI (lenW.getD i 0)) hx hb (hZ.1.1 i (by omega)).2.2.2 hS rfl dJ0_length_8abf5_4 ?_
  refine lv_aload_n hx hb dJ0_length_8abf5_5 rfl (lv_at hl 0 rfl) ?_
  refine ro_i (zrV_run (As := []) (rest := [.int (nI (lenW.getD i 0))]) hx hb hml hown hts Tg_M (c_J0_coder_7d493 l D G K _ i (by omega)) lk_RJ0_335 ⟨rfl, rfl, Nat.le_of_ble_eq_true rfl, Nat.le_of_ble_eq_true rfl⟩ hP hK hZ hS hA [] rfl (vk_recv hZ.1 (i := i) (by omega) hS) rfl hl rfl (Nat.le_of_ble_eq_true rfl) dJ0_length_8abf5_6 ⟨Nat.le_of_ble_eq_true rfl, Nat.le_of_ble_eq_true rfl⟩) hS hA (fun locs hS => ?_)
  refine lv_ishr hx hb dJ0_length_8abf5_9 ?_
  refine n_tope (show (nI (lenW.getD i 0) >>> (nI (0) &&& 31)) = nI (lenW.getD i 0) from sc_shr0 (by have := wd_len i hi; omega)) ?_
  exact ro_iret hx hb hr hlocks hS dJ0_length_8abf5_10 (rfl)

set_option maxHeartbeats 4000000 in
set_option maxRecDepth 100000 in
theorem c_J0_isLatin1_aae02 (l : Launch) (D : va_G) (G : ClassId × ClassId × ClassId) (K : (Nat → Nat) × (Nat → Nat)) (H0 : Heap) (i : Nat) (hi : i < 3) : Met l yJ0_isLatin1_aae02 (wM yJ0_isLatin1_aae02 cJ0_isLatin1_aae02 1 (some .boolean)) (rmD 1) (zrP D G K [.ref (K.1 i)] [] H0) (rQi (nI 1) H0) 0 0 (rF H0) := by
  refine zr_start (Qc := fun H0 => (rQi (nI 1) H0)) (by decide) (Nat.le_of_ble_eq_true rfl) ?_
  intro p e s m args below meth c hx hb hr hts hown hlocks hml hP hK hA hH0 ls hl locs hS hZ
  have hl : lv_has ls 1 [(0, .ref (K.1 i))] := hl
  refine va_gets hx hb hZ.2.1 hS hown (hts _ (List.mem_cons_of_mem _ wt_260)) (fun _ h9 => h9) dJ0_isLatin1_aae02_0 ?_
  refine n_tope (show (1 : Int32) = nI 1 from rfl) ?_
  refine n_if_eq (tgt := 17) hx hb dJ0_isLatin1_aae02_3 (by decide) (by omega) (fun c_3 => ?_) (fun c_3 => ?_)
  · exact absurd c_3 (by decide)
  · refine lv_aload_n hx hb dJ0_isLatin1_aae02_6 rfl (lv_at hl 0 rfl) ?_
    refine vk_getf hx hb (hZ.1.1 i (by omega)).2.1 hS hown (hts _ (List.mem_cons_of_mem _ wt_888)) (fun _ h9 => h9) dJ0_isLatin1_aae02_7 ?_
    refine n_tope (show (0 : Int32) = nI 0 from rfl) ?_
    refine n_if_ne (tgt := 17) hx hb dJ0_isLatin1_aae02_10 (by decide) (by omega) (fun c_10 => ?_) (fun c_10 => ?_)
    · exact absurd c_10 (by decide)
    · refine lv_iconst (v := nI (1)) hx hb dJ0_isLatin1_aae02_13 (by decide) ?_
      refine lv_goto (tgt := 18) hx hb dJ0_isLatin1_aae02_14 (by decide) ?_
      exact ro_zret hx hb hr hlocks hS dJ0_isLatin1_aae02_18 (rfl) (rfl)

set_option maxHeartbeats 4000000 in
set_option maxRecDepth 100000 in
theorem c_J3_checkIndex0 (l : Launch) (D : va_G) (G : ClassId × ClassId × ClassId) (K : (Nat → Nat) × (Nat → Nat)) (H0 : Heap) (i n9 : Nat) (hi : i < n9) (hn : n9 < 2 ^ 31) : Met l yJ3_checkIndex_8e157 (wM yJ3_checkIndex_8e157 cJ3_checkIndex_8e157 3 (some .int)) (rmD 1) (zrP D G K [.int (nI i), .int (nI n9), .null] [] H0) (rQi (nI i) H0) 0 0 (rF H0) := by
  refine zr_start (Qc := fun H0 => (rQi (nI i) H0)) (by decide) (Nat.le_of_ble_eq_true rfl) ?_
  intro p e s m args below meth c hx hb hr hts hown hlocks hml hP hK hA hH0 ls hl locs hS hZ
  have hl : lv_has ls 3 [(0, .int (nI i)), (1, .int (nI n9)), (2, .null)] := hl
  refine lv_iload_n hx hb dJ3_checkIndex_8e157_0 rfl (lv_at hl 0 rfl) ?_
  refine n_if_lt (tgt := 9) hx hb dJ3_checkIndex_8e157_1 (by decide) (by omega) (fun c_1 => ?_) (fun c_1 => ?_)
  · exact c_1.elim
  · refine lv_iload_n hx hb dJ3_checkIndex_8e157_4 rfl (lv_at hl 0 rfl) ?_
    refine lv_iload_n hx hb dJ3_checkIndex_8e157_5 rfl (lv_at hl 1 rfl) ?_
    refine n_icmp_lt (tgt := 16) hx hb dJ3_checkIndex_8e157_6 (by decide) (by omega) (by omega) (fun c_6 => ?_) (fun c_6 => ?_)
    · refine lv_iload_n hx hb dJ3_checkIndex_8e157_16 rfl (lv_at hl 0 rfl) ?_
      exact ro_iret hx hb hr hlocks hS dJ3_checkIndex_8e157_17 (rfl)
    · exact absurd c_6 (by omega)

set_option maxHeartbeats 4000000 in
set_option maxRecDepth 100000 in
theorem c_J3_checkIndex1 (l : Launch) (D : va_G) (G : ClassId × ClassId × ClassId) (K : (Nat → Nat) × (Nat → Nat)) (H0 : Heap) (i n9 : Nat) (tq : Nat) (hi : i < n9) (hn : n9 < 2 ^ 31) : Met l yJ3_checkIndex_8e157 (wM yJ3_checkIndex_8e157 cJ3_checkIndex_8e157 3 (some .int)) (rmD 1) (zrP D G K [.int (nI i), .int (nI n9), .ref (tq)] [] H0) (rQi (nI i) H0) 0 0 (rF H0) := by
  refine zr_start (Qc := fun H0 => (rQi (nI i) H0)) (by decide) (Nat.le_of_ble_eq_true rfl) ?_
  intro p e s m args below meth c hx hb hr hts hown hlocks hml hP hK hA hH0 ls hl locs hS hZ
  have hl : lv_has ls 3 [(0, .int (nI i)), (1, .int (nI n9)), (2, .ref (tq))] := hl
  refine lv_iload_n hx hb dJ3_checkIndex_8e157_0 rfl (lv_at hl 0 rfl) ?_
  refine n_if_lt (tgt := 9) hx hb dJ3_checkIndex_8e157_1 (by decide) (by omega) (fun c_1 => ?_) (fun c_1 => ?_)
  · exact c_1.elim
  · refine lv_iload_n hx hb dJ3_checkIndex_8e157_4 rfl (lv_at hl 0 rfl) ?_
    refine lv_iload_n hx hb dJ3_checkIndex_8e157_5 rfl (lv_at hl 1 rfl) ?_
    refine n_icmp_lt (tgt := 16) hx hb dJ3_checkIndex_8e157_6 (by decide) (by omega) (by omega) (fun c_6 => ?_) (fun c_6 => ?_)
    · refine lv_iload_n hx hb dJ3_checkIndex_8e157_16 rfl (lv_at hl 0 rfl) ?_
      exact ro_iret hx hb hr hlocks hS dJ3_checkIndex_8e157_17 (rfl)
    · exact absurd c_6 (by omega)

set_option maxHeartbeats 4000000 in
set_option maxRecDepth 100000 in
theorem c_J0_checkIndex_df160 (l : Launch) (D : va_G) (G : ClassId × ClassId × ClassId) (K : (Nat → Nat) × (Nat → Nat)) (H0 : Heap) (i n9 : Nat) (hi : i < n9) (hn : n9 < 2 ^ 31) : Met l yJ0_checkIndex_df160 (wM yJ0_checkIndex_df160 cJ0_checkIndex_df160 2 none) (rmD 2) (zrP D G K [.int (nI i), .int (nI n9)] [] H0) (rQv H0) 0 0 (rF H0) := by
  refine zr_start (Qc := fun H0 => (rQv H0)) (by decide) (Nat.le_of_ble_eq_true rfl) ?_
  intro p e s m args below meth c hx hb hr hts hown hlocks hml hP hK hA hH0 ls hl locs hS hZ
  have hl : lv_has ls 2 [(0, .int (nI i)), (1, .int (nI n9))] := hl
  refine lv_iload_n hx hb dJ0_checkIndex_df160_0 rfl (lv_at hl 0 rfl) ?_
  refine lv_iload_n hx hb dJ0_checkIndex_df160_1 rfl (lv_at hl 1 rfl) ?_
  rcases hZ.2.2.1 with hq | ⟨tq, hq⟩
  · refine va_gets hx hb hq hS hown (hts _ (List.mem_cons_of_mem _ wt_276)) (fun _ h9 => h9) dJ0_checkIndex_df160_2 ?_
    refine ro_i (zrS_run (As := [.int (nI i), .int (nI n9), .null]) (rest := []) hx hb hml hown hts Tg_M (c_J3_checkIndex0 l D G K _ i n9 hi hn) lk_RJ0_1059 ⟨rfl, rfl, Nat.le_of_ble_eq_true rfl, Nat.le_of_ble_eq_true rfl⟩ hP hK hZ hS hA [] rfl rfl hl rfl (Nat.le_of_ble_eq_true rfl) dJ0_checkIndex_df160_5 ⟨Nat.le_of_ble_eq_true rfl, Nat.le_of_ble_eq_true rfl⟩) hS hA (fun locs hS => ?_)
    refine lv_pop hx hb dJ0_checkIndex_df160_8 rfl ?_
    exact ro_vret hx hb hr hlocks hS dJ0_checkIndex_df160_9
  · refine va_gets hx hb hq hS hown (hts _ (List.mem_cons_of_mem _ wt_276)) (fun _ h9 => h9) dJ0_checkIndex_df160_2 ?_
    refine ro_i (zrS_run (As := [.int (nI i), .int (nI n9), .ref (tq)]) (rest := []) hx hb hml hown hts Tg_M (c_J3_checkIndex1 l D G K _ i n9 tq hi hn) lk_RJ0_1059 ⟨rfl, rfl, Nat.le_of_ble_eq_true rfl, Nat.le_of_ble_eq_true rfl⟩ hP hK hZ hS hA [] rfl rfl hl rfl (Nat.le_of_ble_eq_true rfl) dJ0_checkIndex_df160_5 ⟨Nat.le_of_ble_eq_true rfl, Nat.le_of_ble_eq_true rfl⟩) hS hA (fun locs hS => ?_)
    refine lv_pop hx hb dJ0_checkIndex_df160_8 rfl ?_
    exact ro_vret hx hb hr hlocks hS dJ0_checkIndex_df160_9

set_option maxHeartbeats 4000000 in
set_option maxRecDepth 100000 in
theorem c_J1_charAt_3b067 (l : Launch) (D : va_G) (G : ClassId × ClassId × ClassId) (K : (Nat → Nat) × (Nat → Nat)) (H0 : Heap) (i x : Nat) (hi : i < 3) (hx9 : x < lenW.getD i 0) : Met l yJ1_charAt_3b067 (wM yJ1_charAt_3b067 cJ1_charAt_3b067 2 (some .char)) (rmD 3) (zrP D G K [.ref (K.2 i), .int (nI x)] [] H0) (rQi (nI ((wdL i).getD x 0)) H0) 0 0 (rF H0) := by
  refine zr_start (Qc := fun H0 => (rQi (nI ((wdL i).getD x 0)) H0)) (by decide) (Nat.le_of_ble_eq_true rfl) ?_
  intro p e s m args below meth c hx hb hr hts hown hlocks hml hP hK hA hH0 ls hl locs hS hZ
  have hl : lv_has ls 2 [(0, .ref (K.2 i)), (1, .int (nI x))] := hl
  refine lv_iload_n hx hb dJ1_charAt_3b067_0 rfl (lv_at hl 1 rfl) ?_
  refine lv_aload_n hx hb dJ1_charAt_3b067_1 rfl (lv_at hl 0 rfl) ?_
  refine va_tlen (v := nI (lenW.getD i 0)) hx hb (hZ.1.1 i (by omega)).2.2.2 hS rfl dJ1_charAt_3b067_2 ?_
  refine ro_v (zrS_run (As := [.int (nI x), .int (nI (lenW.getD i 0))]) (rest := []) hx hb hml hown hts Tg_M (c_J0_checkIndex_df160 l D G K _ x (lenW.getD i 0) (by omega) (by have := wd_len i hi; omega)) lk_RJ1_9 ⟨rfl, rfl, Nat.le_of_ble_eq_true rfl, Nat.le_of_ble_eq_true rfl⟩ hP hK hZ hS hA [] rfl rfl hl rfl (Nat.le_of_ble_eq_true rfl) dJ1_charAt_3b067_3 ⟨Nat.le_of_ble_eq_true rfl, Nat.le_of_ble_eq_true rfl⟩) hS hA (fun locs hS => ?_)
  refine lv_aload_n hx hb dJ1_charAt_3b067_6 rfl (lv_at hl 0 rfl) ?_
  refine lv_iload_n hx hb dJ1_charAt_3b067_7 rfl (lv_at hl 1 rfl) ?_
  refine va_tb (v := .int ((bytW.getD i []).getD x 0)) hx hb (hZ.1.1 i (by omega)).2.2.2 hS (vp_in_nI (by omega) (by have := wd_len i (by omega); omega)) (by rw [nI_clamp (by have := wd_len i (by omega); omega)]) dJ1_charAt_3b067_8 ?_
  refine lv_sipush (v := nI (255)) hx hb dJ1_charAt_3b067_9 (by decide) ?_
  refine lv_iand hx hb dJ1_charAt_3b067_12 ?_
  refine n_tope (show (((bytW.getD i []).getD x 0) &&& nI (255)) = nI ((wdL i).getD x 0) from (wd_byte i hi x hx9).1) ?_
  refine lv_i2c (v := nI ((wdL i).getD x 0)) hx hb dJ1_charAt_3b067_13 (i2c_nI ((wd_byte i hi x hx9).2)) ?_
  exact ro_xret hx hb hr hlocks hS dJ1_charAt_3b067_14 (pk_charN (by have := (wd_byte i hi x hx9).2; omega)).1 (rfl)

set_option maxHeartbeats 4000000 in
set_option maxRecDepth 100000 in
theorem c_J0_charAt_5068e (l : Launch) (D : va_G) (G : ClassId × ClassId × ClassId) (K : (Nat → Nat) × (Nat → Nat)) (H0 : Heap) (i x : Nat) (hi : i < 3) (hx9 : x < lenW.getD i 0) : Met l yJ0_charAt_5068e (wM yJ0_charAt_5068e cJ0_charAt_5068e 2 (some .char)) (rmD 4) (zrP D G K [.ref (K.1 i), .int (nI x)] [] H0) (rQi (nI ((wdL i).getD x 0)) H0) 0 0 (rF H0) := by
  refine zr_start (Qc := fun H0 => (rQi (nI ((wdL i).getD x 0)) H0)) (by decide) (Nat.le_of_ble_eq_true rfl) ?_
  intro p e s m args below meth c hx hb hr hts hown hlocks hml hP hK hA hH0 ls hl locs hS hZ
  have hl : lv_has ls 2 [(0, .ref (K.1 i)), (1, .int (nI x))] := hl
  refine lv_aload_n hx hb dJ0_charAt_5068e_0 rfl (lv_at hl 0 rfl) ?_
  refine ro_i (zrV_run (As := []) (rest := []) hx hb hml hown hts Tg_M (c_J0_isLatin1_aae02 l D G K _ i (by omega)) lk_RJ0_492 ⟨rfl, rfl, Nat.le_of_ble_eq_true rfl, Nat.le_of_ble_eq_true rfl⟩ hP hK hZ hS hA [] rfl (vk_recv hZ.1 (i := i) (by omega) hS) rfl hl rfl (Nat.le_of_ble_eq_true rfl) dJ0_charAt_5068e_1 ⟨Nat.le_of_ble_eq_true rfl, Nat.le_of_ble_eq_true rfl⟩) hS hA (fun locs hS => ?_)
  refine n_if_eq (tgt := 16) hx hb dJ0_charAt_5068e_4 (by decide) (by omega) (fun c_4 => ?_) (fun c_4 => ?_)
  · exact absurd c_4 (by decide)
  · refine lv_aload_n hx hb dJ0_charAt_5068e_7 rfl (lv_at hl 0 rfl) ?_
    refine vk_getf hx hb (hZ.1.1 i (by omega)).2.2.1 hS hown (hts _ (List.mem_cons_of_mem _ wt_887)) (fun _ h9 => h9) dJ0_charAt_5068e_8 ?_
    refine lv_iload_n hx hb dJ0_charAt_5068e_11 rfl (lv_at hl 1 rfl) ?_
    refine ro_i (zrS_run (As := [.ref (K.2 i), .int (nI x)]) (rest := []) hx hb hml hown hts Tg_M (c_J1_charAt_3b067 l D G K _ i x hi hx9) lk_RJ0_495 ⟨rfl, rfl, Nat.le_of_ble_eq_true rfl, Nat.le_of_ble_eq_true rfl⟩ hP hK hZ hS hA [] rfl rfl hl rfl (Nat.le_of_ble_eq_true rfl) dJ0_charAt_5068e_12 ⟨Nat.le_of_ble_eq_true rfl, Nat.le_of_ble_eq_true rfl⟩) hS hA (fun locs hS => ?_)
    exact ro_xret hx hb hr hlocks hS dJ0_charAt_5068e_15 (pk_charN (by have := (wd_byte i hi x hx9).2; omega)).1 (rfl)

set_option maxHeartbeats 4000000 in
set_option maxRecDepth 100000 in
theorem c_X2_isDigit (l : Launch) (D : va_G) (G : ClassId × ClassId × ClassId) (H0 : Heap) (c9 : Nat) (hc : c9 < 2 ^ 31) : Met l yX2_isDigit (wM yX2_isDigit cX2_isDigit 1 (some .boolean)) (rmD 1) (rP D G [.int (nI c9)] [] H0) (rQi (bI (isD c9)) H0) 0 0 (rF H0) := by
  refine ro_start (Qc := fun H0 => (rQi (bI (isD c9)) H0)) (by decide) (Nat.le_of_ble_eq_true rfl) ?_
  intro p e s m args below meth c hx hb hr hts hown hlocks hml hP hK hA hH0 ls hl locs hS
  have hl : lv_has ls 1 [(0, .int (nI c9))] := hl
  refine lv_iload_n hx hb dX2_isDigit_0 rfl (lv_at hl 0 rfl) ?_
  refine lv_bipush (v := nI (48)) hx hb dX2_isDigit_1 (by decide) ?_
  refine n_icmp_lt (tgt := 16) hx hb dX2_isDigit_3 (by decide) (by omega) (by omega) (fun c_3 => ?_) (fun c_3 => ?_)
  · refine lv_iconst (v := nI (0)) hx hb dX2_isDigit_16 (by decide) ?_
    exact ro_zret hx hb hr hlocks hS dX2_isDigit_17 (rfl) (bI_of_f (decide_eq_false (by omega)))
  · refine lv_iload_n hx hb dX2_isDigit_6 rfl (lv_at hl 0 rfl) ?_
    refine lv_bipush (v := nI (57)) hx hb dX2_isDigit_7 (by decide) ?_
    refine n_icmp_gt (tgt := 16) hx hb dX2_isDigit_9 (by decide) (by omega) (by omega) (fun c_9 => ?_) (fun c_9 => ?_)
    · refine lv_iconst (v := nI (0)) hx hb dX2_isDigit_16 (by decide) ?_
      exact ro_zret hx hb hr hlocks hS dX2_isDigit_17 (rfl) (bI_of_f (decide_eq_false (by omega)))
    · refine lv_iconst (v := nI (1)) hx hb dX2_isDigit_12 (by decide) ?_
      refine lv_goto (tgt := 17) hx hb dX2_isDigit_13 (by decide) ?_
      exact ro_zret hx hb hr hlocks hS dX2_isDigit_17 (rfl) (bI_of_t (decide_eq_true (by omega)))

set_option maxHeartbeats 4000000 in
set_option maxRecDepth 100000 in
theorem c_X2_isLetter (l : Launch) (D : va_G) (G : ClassId × ClassId × ClassId) (H0 : Heap) (c9 : Nat) (hc : c9 < 2 ^ 31) : Met l yX2_isLetter (wM yX2_isLetter cX2_isLetter 1 (some .boolean)) (rmD 1) (rP D G [.int (nI c9)] [] H0) (rQi (bI (isL c9)) H0) 0 0 (rF H0) := by
  refine ro_start (Qc := fun H0 => (rQi (bI (isL c9)) H0)) (by decide) (Nat.le_of_ble_eq_true rfl) ?_
  intro p e s m args below meth c hx hb hr hts hown hlocks hml hP hK hA hH0 ls hl locs hS
  have hl : lv_has ls 1 [(0, .int (nI c9))] := hl
  refine lv_iload_n hx hb dX2_isLetter_0 rfl (lv_at hl 0 rfl) ?_
  refine lv_bipush (v := nI (97)) hx hb dX2_isLetter_1 (by decide) ?_
  refine n_icmp_lt (tgt := 16) hx hb dX2_isLetter_3 (by decide) (by omega) (by omega) (fun c_3 => ?_) (fun c_3 => ?_)
  · refine lv_iconst (v := nI (0)) hx hb dX2_isLetter_16 (by decide) ?_
    exact ro_zret hx hb hr hlocks hS dX2_isLetter_17 (rfl) (bI_of_f (decide_eq_false (by omega)))
  · refine lv_iload_n hx hb dX2_isLetter_6 rfl (lv_at hl 0 rfl) ?_
    refine lv_bipush (v := nI (122)) hx hb dX2_isLetter_7 (by decide) ?_
    refine n_icmp_gt (tgt := 16) hx hb dX2_isLetter_9 (by decide) (by omega) (by omega) (fun c_9 => ?_) (fun c_9 => ?_)
    · refine lv_iconst (v := nI (0)) hx hb dX2_isLetter_16 (by decide) ?_
      exact ro_zret hx hb hr hlocks hS dX2_isLetter_17 (rfl) (bI_of_f (decide_eq_false (by omega)))
    · refine lv_iconst (v := nI (1)) hx hb dX2_isLetter_12 (by decide) ?_
      refine lv_goto (tgt := 17) hx hb dX2_isLetter_13 (by decide) ?_
      exact ro_zret hx hb hr hlocks hS dX2_isLetter_17 (rfl) (bI_of_t (decide_eq_true (by omega)))

set_option maxHeartbeats 4000000 in
set_option maxRecDepth 100000 in
theorem c_X2_isWord (l : Launch) (D : va_G) (G : ClassId × ClassId × ClassId) (K : (Nat → Nat) × (Nat → Nat)) (H0 : Heap) (ad n : Nat → Nat) (f : Nat → Nat → Nat) (k : Nat → Nat) (b : Nat → Bool) (v : Int32) (i : Nat) (hi : i < 3) (h0 : n 0 ≤ 200) (hk : k 3 ≤ k 2) (hk2 : k 2 ≤ n 0) (hF : ∀ x, x < n 0 → f 0 x ≤ 255) : Met l yX2_isWord (wM yX2_isWord cX2_isWord 3 (some .boolean)) (rmD 5) (zrP D G K [.ref (ad 1), .ref (K.1 i)] [(ad 1, .inr (1, [.ref (ad 2), .ref (ad 4), .ref (ad 6), .int (nI (k 0)), .int (nI (k 1)), .ref (ad 8), .int (bI (b 0)), .int (nI (k 2)), .int (nI (k 3)), .int (nI (k 4)), .int (v)])), (ad 2, .inr (2, [.ref (ad 3), .int (nI (n 0))])), (ad 3, .inl (G.1, 200, .inl (nF (f 0))))] H0) (rQi (bI (isW (f 0) (k 3) (k 2) i)) H0) 0 0 (rF H0) := by
  refine zr_start (Qc := fun H0 => (rQi (bI (isW (f 0) (k 3) (k 2) i)) H0)) (by decide) (Nat.le_of_ble_eq_true rfl) ?_
  intro p e s m args below meth c hx hb hr hts hown hlocks hml hP hK hA hH0 ls hl locs hS hZ
  have hl : lv_has ls 3 [(0, .ref (ad 1)), (1, .ref (K.1 i))] := hl
  have hwl := wd_len i hi
  refine lv_aload_n hx hb dX2_isWord_0 rfl (lv_at hl 1 rfl) ?_
  refine lv_ifnull hx hb dX2_isWord_1 ?_
  refine lv_aload_n hx hb dX2_isWord_4 rfl (lv_at hl 0 rfl) ?_
  refine va_get (D := D) (ci := 1) (v := .int (nI (k 2))) (C := RX2) (T := TX2) (N := 11) hx hb hts (iX2) hown hK hP 0 rfl rfl 7 (by decide) (hts _ (List.mem_cons_of_mem _ wt_106)) (fun _ h9 => h9) rfl dX2_isWord_5 ?_
  refine lv_aload_n hx hb dX2_isWord_8 rfl (lv_at hl 0 rfl) ?_
  refine va_get (D := D) (ci := 1) (v := .int (nI (k 3))) (C := RX2) (T := TX2) (N := 11) hx hb hts (iX2) hown hK hP 0 rfl rfl 8 (by decide) (hts _ (List.mem_cons_of_mem _ wt_107)) (fun _ h9 => h9) rfl dX2_isWord_9 ?_
  refine n_isub hx hb dX2_isWord_12 (by omega) ?_
  refine lv_aload_n hx hb dX2_isWord_13 rfl (lv_at hl 1 rfl) ?_
  refine ro_i (zrV_run (As := []) (rest := [.int (nI ((k 2) - (k 3)))]) hx hb hml hown hts Tg_M (c_J0_length_8abf5 l D G K _ i (by omega)) lk_RX2_124 ⟨rfl, rfl, Nat.le_of_ble_eq_true rfl, Nat.le_of_ble_eq_true rfl⟩ hP hK hZ hS hA [] rfl (vk_recv hZ.1 (i := i) (by omega) hS) rfl hl rfl (Nat.le_of_ble_eq_true rfl) dX2_isWord_14 ⟨Nat.le_of_ble_eq_true rfl, Nat.le_of_ble_eq_true rfl⟩) hS hA (fun locs hS => ?_)
  refine n_icmp_eq (tgt := 22) hx hb dX2_isWord_17 (by decide) (by omega) (by omega) (fun c_17 => ?_) (fun c_17 => ?_)
  · refine lv_iconst (v := nI (0)) hx hb dX2_isWord_22 (by decide) ?_
    refine lv_istore_n (lv' := [(2, .int (nI 0)), (0, .ref (ad 1)), (1, .ref (K.1 i))]) hx hb dX2_isWord_23 rfl hl (by decide) rfl (fun ls hl => ?_)
    have loop_1 : ∀ (fuel : Nat) (x : Nat), (x ≤ lenW.getD i 0) → (∀ u, u < x → f 0 (k 3 + u) = (wdL i).getD u 0) → (lenW.getD i 0 - x) < fuel → ∀ (locs : List Loc), va_S (rF s.heap) s.heap s.heap locs → ∀ (ls : Array Slot), lv_has ls 3 [(0, .ref (ad 1)), (1, .ref (K.1 i)), (2, .int (nI x))] → W p l e (rmD 5) s m args below meth c s.heap locs 0 0 (MQ below (rQi (bI (isW (f 0) (k 3) (k 2) i)) s.heap) args s 0 0 (rF s.heap)) (F0 m 24 ls []) := by
      intro fuel
      induction fuel with
      | zero => intro x h9 ha hfu; exact absurd hfu (Nat.not_lt_zero _)
      | succ fuel ih_2 =>
        intro x h9 ha hfu locs hS ls hl
        refine lv_iload_n hx hb dX2_isWord_24 rfl (lv_at hl 2 rfl) ?_
        refine lv_aload_n hx hb dX2_isWord_25 rfl (lv_at hl 1 rfl) ?_
        refine ro_i (zrV_run (As := []) (rest := [.int (nI x)]) hx hb hml hown hts Tg_M (c_J0_length_8abf5 l D G K _ i (by omega)) lk_RX2_124 ⟨rfl, rfl, Nat.le_of_ble_eq_true rfl, Nat.le_of_ble_eq_true rfl⟩ hP hK hZ hS hA [] rfl (vk_recv hZ.1 (i := i) (by omega) hS) rfl hl rfl (Nat.le_of_ble_eq_true rfl) dX2_isWord_26 ⟨Nat.le_of_ble_eq_true rfl, Nat.le_of_ble_eq_true rfl⟩) hS hA (fun locs hS => ?_)
        refine n_icmp_ge (tgt := 61) hx hb dX2_isWord_29 (by decide) (by omega) (by omega) (fun c_29 => ?_) (fun c_29 => ?_)
        · refine lv_iconst (v := nI (1)) hx hb dX2_isWord_61 (by decide) ?_
          exact ro_zret hx hb hr hlocks hS dX2_isWord_62 (rfl) (bI_of_t (decide_eq_true ⟨c_17, fun u hu => ha u (by omega)⟩))
        · have hb9 := (wd_byte i hi x c_29).2
          have hf9 := hF (k 3 + x) (by omega)
          refine lv_aload_n hx hb dX2_isWord_32 rfl (lv_at hl 0 rfl) ?_
          refine va_get (D := D) (ci := 1) (v := .ref (ad 2)) (C := RX2) (T := TX2) (N := 11) hx hb hts (iX2) hown hK hP 0 rfl rfl 0 (by decide) (hts _ (List.mem_cons_of_mem _ wt_94)) (fun _ h9 => h9) rfl dX2_isWord_33 ?_
          refine lv_aload_n hx hb dX2_isWord_36 rfl (lv_at hl 0 rfl) ?_
          refine va_get (D := D) (ci := 1) (v := .int (nI (k 3))) (C := RX2) (T := TX2) (N := 11) hx hb hts (iX2) hown hK hP 0 rfl rfl 8 (by decide) (hts _ (List.mem_cons_of_mem _ wt_107)) (fun _ h9 => h9) rfl dX2_isWord_37 ?_
          refine lv_iload_n hx hb dX2_isWord_40 rfl (lv_at hl 2 rfl) ?_
          refine n_iadd hx hb dX2_isWord_41 ?_
          refine ro_i (roV_run (As := [.int (nI ((k 3) + x))]) (rest := []) hx hb hml hown hts Tg_M (c_X3_at l D G _ (ad 2) (ad 3) 200 (n 0) (f 0) ((k 3) + x) (by omega) (by omega) (by omega)) lk_RX2_94 ⟨rfl, rfl, Nat.le_of_ble_eq_true rfl, Nat.le_of_ble_eq_true rfl⟩ hP hK [1, 2] rfl 1 2 rfl rfl rfl rfl hl rfl (Nat.le_of_ble_eq_true rfl) dX2_isWord_42 ⟨Nat.le_of_ble_eq_true rfl, Nat.le_of_ble_eq_true rfl⟩) hS hA (fun locs hS => ?_)
          refine lv_aload_n hx hb dX2_isWord_45 rfl (lv_at hl 1 rfl) ?_
          refine lv_iload_n hx hb dX2_isWord_46 rfl (lv_at hl 2 rfl) ?_
          refine ro_i (zrV_run (As := [.int (nI x)]) (rest := [.int (nI ((f 0) ((k 3) + x)))]) hx hb hml hown hts Tg_M (c_J0_charAt_5068e l D G K _ i x hi (by omega)) lk_RX2_129 ⟨rfl, rfl, Nat.le_of_ble_eq_true rfl, Nat.le_of_ble_eq_true rfl⟩ hP hK hZ hS hA [] rfl (vk_recv hZ.1 (i := i) (by omega) hS) rfl hl rfl (Nat.le_of_ble_eq_true rfl) dX2_isWord_47 ⟨Nat.le_of_ble_eq_true rfl, Nat.le_of_ble_eq_true rfl⟩) hS hA (fun locs hS => ?_)
          refine n_icmp_eq (tgt := 55) hx hb dX2_isWord_50 (by decide) (by omega) (by omega) (fun c_50 => ?_) (fun c_50 => ?_)
          · refine lv_iinc (v := nI (x + 1)) (lv' := [(2, .int (nI (x + 1))), (0, .ref (ad 1)), (1, .ref (K.1 i))]) hx hb dX2_isWord_55 hl (k := 2) rfl (nI_inc _ _) (by decide) rfl (fun ls hl => ?_)
            refine lv_goto (tgt := 24) hx hb dX2_isWord_58 (by decide) ?_
            exact ih_2 (x + 1) (by omega) (lt_s ha c_50) (by omega) locs hS _ (lv_sub hl [1, 2, 0] rfl)
          · refine lv_iconst (v := nI (0)) hx hb dX2_isWord_53 (by decide) ?_
            exact ro_zret hx hb hr hlocks hS dX2_isWord_54 (rfl) (bI_of_f (decide_eq_false (fun z => c_50 (z.2 x (by omega)))))
    exact loop_1 (lenW.getD i 0 - 0 + 1) (0) (by omega) (fun u hu => absurd hu (Nat.not_lt_zero u)) (Nat.lt_succ_self _) locs hS _ (lv_sub hl [1, 2, 0] rfl)
  · refine lv_iconst (v := nI (0)) hx hb dX2_isWord_20 (by decide) ?_
    exact ro_zret hx hb hr hlocks hS dX2_isWord_21 (rfl) (bI_of_f (decide_eq_false (fun z => c_17 z.1)))
