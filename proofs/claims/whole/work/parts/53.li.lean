def LI (n : Nat → Nat) (f : Nat → Nat → Nat) (k : Nat → Nat) (b : Nat → Bool) (q : Nat) (g : Nat → Nat → Nat) (tx : Nat → Int32) (kp : Nat → Bool) : Prop :=
  XI n f k q ∧ RQ n f k g ∧ (n 0 ≤ 200 ∧ (∀ x, x < n 0 → f 0 x ≤ 255) ∧ ∀ x, x < n 0 → tx x &&& 255 = nI (f 0 x)) ∧ (n 1 ≤ 5 ∧ n 2 ≤ 6 ∧ n 3 ≤ 4) ∧ (TI n f ∧ ∀ x, x < 4 * n 6 → g 12 x = f 6 x) ∧ (n 9 ≤ 6 ∧ n 10 ≤ 12 ∧ n 11 ≤ 6 ∧ n 12 ≤ 12) ∧ (b 1 = true → okN (n 5) (n 4) (f 5) (f 4) q (n 9) (f 9) (n 10) (f 10) (k 6)) ∧ (b 2 = true → okN (n 5) (n 4) (f 5) (f 4) q (n 11) (f 11) (n 12) (f 12) (k 7)) ∧ rIm (n 5) (g 10) (b 1) (b 2) (f 9) (n 10) (f 10) (k 6) (f 11) (n 12) (f 12) (k 7) ∧ kp 0 = b 1 ∧ kp 1 = b 2
theorem ix_lt {x : Int32} {n t : Nat} (hn : n < 2 ^ 31) (h : ix x n = some t) : t < n := by
  unfold ix at h
  split at h
  · rename_i hh
    obtain ⟨j, hj, rfl⟩ := hasB_N hn hh
    rw [nI_clamp (by omega)] at h
    cases h
    exact hj
  · cases h
theorem ir_in {x : Int32} {lo hi w : Nat} (hl : lo ≤ hi) (hh : hi < 2 ^ 31) (h : ir x lo hi = some w) : lo ≤ w ∧ w ≤ hi := by
  unfold ir at h
  split at h
  · rename_i hq
    obtain ⟨j, h1, h2, rfl⟩ := inR_N hl hh hq
    rw [nI_clamp (by omega)] at h
    cases h
    exact ⟨h1, h2⟩
  · cases h
theorem irT_in {x y z : Int32} {v : Nat × Nat × Nat} (h : irT x y z = some v) : v.1 ≤ 60 ∧ v.2.1 ≤ 9 ∧ v.2.2 ≤ 9 := by
  by_cases hq : (inR x (nI 0) (nI 60) && inR y (nI 0) (nI 9) && inR z (nI 0) (nI 9)) = true
  · obtain ⟨a, c, d, h1, h2, h3, -, -, -, e⟩ := irT_ok hq
    rw [h] at e
    cases e
    exact ⟨h1, h2, h3⟩
  · rw [irT_no (Bool.eq_false_iff.mpr hq)] at h
    cases h
theorem okN_mono {nT nW : Nat} {law wt : Nat → Nat} {q nl : Nat} {lk : Nat → Nat} {nf : Nat} {fc : Nat → Nat} {h : Nat} (H : okN nT nW law wt q nl lk nf fc h) {q2 : Nat} (hq : q ≤ q2) : okN nT nW law wt q2 nl lk nf fc h := by
  obtain ⟨h1, h2, h3, h4, h5⟩ := H
  refine ⟨h1, h2, h3, fun t ht => Nat.le_trans (h4 t ht) hq, fun i hi => ?_⟩
  obtain ⟨a1, a2, a3, a4, a5, a6, a7⟩ := h5 i hi
  exact ⟨a1, Nat.le_trans a2 hq, a3, a4, a5, a6, a7⟩
theorem adF_lo {u : Nat → Nat} {m a0 a1 a2 a3 a4 a5 x : Nat} (h : x < m) : adF u m a0 a1 a2 a3 a4 a5 x = u x := by
  unfold adF va_up
  repeat rw [if_neg (by omega)]
theorem adF_hi (u : Nat → Nat) (m a0 a1 a2 a3 a4 a5 : Nat) : adF u m a0 a1 a2 a3 a4 a5 (m + 0) = a0 ∧ adF u m a0 a1 a2 a3 a4 a5 (m + 1) = a1 ∧ adF u m a0 a1 a2 a3 a4 a5 (m + 2) = a2 ∧ adF u m a0 a1 a2 a3 a4 a5 (m + 3) = a3 ∧ adF u m a0 a1 a2 a3 a4 a5 (m + 4) = a4 ∧ adF u m a0 a1 a2 a3 a4 a5 (m + 5) = a5 := by
  refine ⟨?_, ?_, ?_, ?_, ?_, ?_⟩ <;> simp [adF, va_up, Nat.add_assoc]
theorem okN_add {nT nW : Nat} {law wt : Nat → Nat} {q nl : Nat} {lk : Nat → Nat} {nf : Nat} {fc : Nat → Nat} {h : Nat} (H : okN nT nW law wt q nl lk nf fc h) (hf : nf < 12) {t j c s : Nat} (ht : t < nT) (hj : j < nW) (hc : c ≤ 999) (hs : s ≤ 1) (hd : s = 0 → c = drk (law t) (wt j) (lk t) h) : okN nT nW law wt q nl lk (nf + 1) (adF fc (6 * nf) t (lk t) h j c s) h := by
  obtain ⟨h1, h2, h3, h4, h5⟩ := H
  refine ⟨h1, by omega, h3, h4, fun i hi => ?_⟩
  by_cases e : i = nf
  · subst e
    obtain ⟨a0, a1, a2, a3, a4, a5⟩ := adF_hi fc (6 * i) t (lk t) h j c s
    show okF nT nW law wt q _ i
    unfold okF
    rw [a0, a1, a2, a3, a4, a5]
    exact ⟨ht, h4 t ht, h3, hj, hc, hs, hd⟩
  · have hl : ∀ x, x < 6 → adF fc (6 * nf) t (lk t) h j c s (6 * i + x) = fc (6 * i + x) := fun x hx => adF_lo (by omega)
    show okF nT nW law wt q _ i
    unfold okF
    rw [hl 0 (by decide), hl 1 (by decide), hl 2 (by decide), hl 3 (by decide), hl 4 (by decide), hl 5 (by decide)]
    exact h5 i (by omega)
theorem okN_lk {nT nW : Nat} {law wt : Nat → Nat} {q nl : Nat} {lk : Nat → Nat} {nf : Nat} {fc : Nat → Nat} {h : Nat} (H : okN nT nW law wt q nl lk nf fc h) {q2 : Nat} {lk2 : Nat → Nat} (hq : q ≤ q2) (hl : ∀ t, t < nT → lk2 t ≤ q2) : okN nT nW law wt q2 nl lk2 nf fc h := by
  obtain ⟨h1, h2, h3, -, h5⟩ := okN_mono H hq
  exact ⟨h1, h2, h3, hl, h5⟩
theorem lkUp_le {nT q : Nat} {lk : Nat → Nat} (H : ∀ t, t < nT → lk t ≤ q) (t : Nat) (ht : t < nT) : ∀ x, x < nT → lkUp lk t x ≤ q + 1 := by
  intro x hx
  have h1 := H x hx
  have h2 := H t ht
  unfold lkUp va_up
  split <;> omega
theorem lkUp2_le {nT q : Nat} {lk : Nat → Nat} (H : ∀ t, t < nT → lk t ≤ q) {t u : Nat} (ht : t < nT) (hu : u < nT) (hne : t ≠ u) : ∀ x, x < nT → lkUp (lkUp lk t) u x ≤ q + 1 := by
  intro x hx
  have h1 := H x hx
  have h2 := H t ht
  have h3 := H u hu
  unfold lkUp va_up
  have e : ¬ u = t := fun z => hne z.symm
  simp only [if_neg e]
  repeat' split
  all_goals omega
theorem okN_cp {nT nW : Nat} {law wt : Nat → Nat} {q nl : Nat} {lk : Nat → Nat} {nf : Nat} {fc : Nat → Nat} {h : Nat} (H : okN nT nW law wt q nl lk nf fc h) (lk0 fc0 : Nat → Nat) : okN nT nW law wt q nl (cpN lk lk0 nl) nf (cpN fc fc0 (6 * nf)) h := by
  obtain ⟨h1, h2, h3, h4, h5⟩ := H
  refine ⟨h1, h2, h3, fun t ht => by rw [cpN_at (by omega)]; exact h4 t ht, fun i hi => ?_⟩
  have hl : ∀ x, x < 6 → cpN fc fc0 (6 * nf) (6 * i + x) = fc (6 * i + x) := fun x hx => cpN_at (by omega)
  show okF nT nW law wt q _ i
  unfold okF
  rw [hl 0 (by decide), hl 1 (by decide), hl 2 (by decide), hl 3 (by decide), hl 4 (by decide), hl 5 (by decide)]
  exact h5 i hi
theorem LI_mono {n : Nat → Nat} {f : Nat → Nat → Nat} {k : Nat → Nat} {b : Nat → Bool} {q : Nat} {g : Nat → Nat → Nat} {tx : Nat → Int32} {kp : Nat → Bool} (h : LI n f k b q g tx kp) {q2 : Nat} (hq : q ≤ q2) (h4 : q2 ≤ 4000) : LI n f k b q2 g tx kp := by
  obtain ⟨hI, hM, hT, hR, hL, hG, ho1, ho2, hIm, hkp⟩ := h
  obtain ⟨i4, i5, i6, iq, iw, il, hN⟩ := hI
  exact ⟨⟨i4, i5, i6, h4, iw, il, okN_mono hN hq⟩, hM, hT, hR, hL, hG, fun z => okN_mono (ho1 z) hq, fun z => okN_mono (ho2 z) hq, hIm, hkp⟩
/-- what stands in 'now' is anew: the rest stays -/
theorem LI_now {n : Nat → Nat} {f : Nat → Nat → Nat} {k : Nat → Nat} {b : Nat → Bool} {q : Nat} {g : Nat → Nat → Nat} {tx : Nat → Int32} {kp : Nat → Bool} (h : LI n f k b q g tx kp) {q2 : Nat} (hq : q ≤ q2) (h4 : q2 ≤ 4000) {nl nf hh : Nat} {lk fc u : Nat → Nat} (hN : okN (n 5) (n 4) (f 5) (f 4) q2 nl lk nf fc hh) (hu : reM (n 5) (g 10) u lk nf fc hh) : LI (va_up (va_up n 7 nl) 8 nf) (va_up (va_up f 7 lk) 8 fc) (va_up k 5 hh) b q2 (va_up g 10 u) tx kp := by
  obtain ⟨hI, hM, hT, hR, hL, hG, ho1, ho2, hIm, hkp⟩ := h
  obtain ⟨i4, i5, i6, iq, iw, il, -⟩ := hI
  obtain ⟨m2, m3, m4, m5, -⟩ := hM
  refine ⟨⟨i4, i5, i6, h4, iw, il, hN⟩, ⟨m2, m3, m4, m5, hu.1⟩, hT, hR, hL, hG, fun z => okN_mono (ho1 z) hq, fun z => okN_mono (ho2 z) hq, ⟨fun z => ?_, fun z => ?_⟩, hkp⟩
  · exact reN_keep (hIm.1 z) hG.2.1 (fun x _ => hu.2 (80 + x) (by omega))
  · exact reN_keep (hIm.2 z) hG.2.2.2 (fun x _ => hu.2 (160 + x) (by omega))
theorem ok_weighs {n : Nat → Nat} {f : Nat → Nat → Nat} {k : Nat → Nat} {q : Nat} (hI : XI n f k q) (a c : Int32) : okN (n 5) (n 4) (f 5) (f 4) (q + 1) (n 7) (spWeighs n f k a c).2.2.1 (spWeighs n f k a c).2.1 (spWeighs n f k a c).2.2.2 (k 5) := by
  obtain ⟨i4, i5, i6, iq, iw, il, hN⟩ := hI
  unfold spWeighs
  cases e1 : ix a (n 5) with
  | none => exact okN_mono hN (by omega)
  | some t =>
    cases e2 : ix c (n 4) with
    | none => exact okN_mono hN (by omega)
    | some j =>
      have ht := ix_lt (by omega) e1
      have hj := ix_lt (by omega) e2
      show okN _ _ _ _ _ _ (if n 8 < 12 then _ else _ : Int32 × (Nat × (Nat → Nat) × (Nat → Nat))).2.2.1 (if n 8 < 12 then _ else _ : Int32 × (Nat × (Nat → Nat) × (Nat → Nat))).2.1 (if n 8 < 12 then _ else _ : Int32 × (Nat × (Nat → Nat) × (Nat → Nat))).2.2.2 _
      by_cases h8 : n 8 < 12
      · simp only [if_pos h8]
        have h9 := hN.2.2.1
        have h10 := hN.2.2.2.1
        have hd := drk_lt (n := f 7 t) (h := k 5) (il t ht) (iw j hj) (by have := h10 t ht; omega) h9
        exact okN_lk (okN_add hN h8 ht hj (Nat.le_trans hd (by decide)) (by decide) (fun _ => rfl)) (by omega) (lkUp_le h10 t ht)
      · simp only [if_neg h8]
        exact okN_mono hN (by omega)
theorem ok_says {n : Nat → Nat} {f : Nat → Nat → Nat} {k : Nat → Nat} {q : Nat} (hI : XI n f k q) (a c d : Int32) : okN (n 5) (n 4) (f 5) (f 4) q (n 7) (f 7) (spSays n f k a c d).2.1 (spSays n f k a c d).2.2 (k 5) := by
  obtain ⟨i4, i5, i6, iq, iw, il, hN⟩ := hI
  unfold spSays
  cases e1 : ix a (n 5) with
  | none => exact hN
  | some t =>
    cases e2 : ix c (n 4) with
    | none => exact hN
    | some j =>
      cases e3 : ir d 0 99 with
      | none => exact hN
      | some cu =>
        have ht := ix_lt (by omega) e1
        have hj := ix_lt (by omega) e2
        have hc := ir_in (by decide) (by decide) e3
        show okN _ _ _ _ _ _ _ (if n 8 < 12 then _ else _ : Int32 × (Nat × (Nat → Nat))).2.1 (if n 8 < 12 then _ else _ : Int32 × (Nat × (Nat → Nat))).2.2 _
        by_cases h8 : n 8 < 12
        · simp only [if_pos h8]
          exact okN_add hN h8 ht hj (by omega) (by decide) (fun z => absurd z (by decide))
        · simp only [if_neg h8]
          exact hN
theorem ok_jug {n : Nat → Nat} {f : Nat → Nat → Nat} {k : Nat → Nat} {q : Nat} (hI : XI n f k q) (a a2 a3 a4 a5 : Int32) : okN (n 5) (n 4) (f 5) (f 4) (q + 1) (n 7) (spJug n f k a a2 a3 a4 a5).2 (n 8) (f 8) (k 5) := by
  obtain ⟨i4, i5, i6, iq, iw, il, hN⟩ := hI
  refine okN_lk hN (by omega) ?_
  have h0 : ∀ t, t < n 5 → f 7 t ≤ q + 1 := fun t ht => by have := hN.2.2.2.1 t ht; omega
  unfold spJug
  cases e1 : ix a (n 5) with
  | none => exact h0
  | some t =>
    cases e2 : ix a2 (n 5) with
    | none => exact h0
    | some u =>
      have ht := ix_lt (by omega) e1
      have hu := ix_lt (by omega) e2
      show ∀ x, x < n 5 → (if t = u then _ else _ : Int32 × (Nat → Nat)).2 x ≤ q + 1
      by_cases e : t = u
      · simp only [if_pos e]; exact h0
      · simp only [if_neg e]
        cases e3 : ix a3 (n 4) with
        | none => exact h0
        | some j =>
          cases e4 : ir a4 0 999 with
          | none => exact h0
          | some c =>
            cases e5 : ir a5 0 1 with
            | none => exact h0
            | some w => exact lkUp2_le hN.2.2.2.1 ht hu e
theorem ok_night {n : Nat → Nat} {f : Nat → Nat → Nat} {k : Nat → Nat} {q : Nat} (hI : XI n f k q) : okN (n 5) (n 4) (f 5) (f 4) q (n 7) (spNight n f).2 (n 8) (f 8) (k 5) := by
  refine okN_lk hI.2.2.2.2.2.2 (Nat.le_refl _) (fun t ht => ?_)
  show zeF (f 7) (n 5) t ≤ q
  unfold zeF
  rw [cpN_at ht]
  exact Nat.zero_le _
theorem ok_heat {n : Nat → Nat} {f : Nat → Nat → Nat} {k : Nat → Nat} {q : Nat} (hI : XI n f k q) (a : Int32) : okN (n 5) (n 4) (f 5) (f 4) q (n 7) (f 7) (n 8) (f 8) (spHeat k a).2 := by
  obtain ⟨h1, h2, h3, h4, h5⟩ := hI.2.2.2.2.2.2
  refine ⟨h1, h2, ?_, h4, h5⟩
  unfold spHeat
  cases e : ir a 0 9 with
  | none => exact h3
  | some w => exact (ir_in (by decide) (by decide) e).2
theorem ok_undo {n : Nat → Nat} {f : Nat → Nat → Nat} {k : Nat → Nat} {q : Nat} (hI : XI n f k q) : okN (n 5) (n 4) (f 5) (f 4) q (n 7) (spUndo n f).2.2 (spUndo n f).2.1 (f 8) (k 5) := by
  obtain ⟨h1, h2, h3, h4, h5⟩ := hI.2.2.2.2.2.2
  unfold spUndo
  by_cases e : n 8 = 0
  · simp only [if_pos e]; exact ⟨h1, h2, h3, h4, h5⟩
  · simp only [if_neg e]
    refine ⟨h1, by omega, h3, fun t ht => ?_, fun i hi => h5 i (by omega)⟩
    have h6 := h4 t ht
    split
    · unfold va_up
      split
      · rename_i e2; subst e2; omega
      · exact h6
    · exact h6
theorem ok_back {n : Nat → Nat} {f : Nat → Nat → Nat} {k : Nat → Nat} {b : Nat → Bool} {q : Nat} {g : Nat → Nat → Nat} {tx : Nat → Int32} {kp : Nat → Bool} (h : LI n f k b q g tx kp) (a : Int32) : okN (n 5) (n 4) (f 5) (f 4) q (spBack n f k b a).2.1 (spBack n f k b a).2.2.1 (spBack n f k b a).2.2.2.1 (spBack n f k b a).2.2.2.2.1 (spBack n f k b a).2.2.2.2.2 := by
  obtain ⟨hI, hM, hT, hR, hL, hG, ho1, ho2, hIm, hkp⟩ := h
  have hN := hI.2.2.2.2.2.2
  unfold spBack
  cases e : ir a 0 1 with
  | none => exact hN
  | some w =>
    simp only [Option.elim]
    by_cases e0 : w = 0
    · simp only [if_pos e0]
      by_cases e1 : b 1 = true
      · simp only [if_pos e1]; exact okN_cp (ho1 e1) _ _
      · simp only [if_neg e1]; exact hN
    · simp only [if_neg e0]
      by_cases e1 : b 2 = true
      · simp only [if_pos e1]; exact okN_cp (ho2 e1) _ _
      · simp only [if_neg e1]; exact hN
theorem LI_type {n : Nat → Nat} {f : Nat → Nat → Nat} {k : Nat → Nat} {b : Nat → Bool} {q : Nat} {g : Nat → Nat → Nat} {tx : Nat → Int32} {kp : Nat → Bool} (h : LI n f k b q g tx kp) (vv : Int64) (a : Int32) {tx2 : Nat → Int32} (ht : ∀ i, i < (spType n f vv a).2.1 → tx2 i &&& 255 = nI ((spType n f vv a).2.2 i)) : LI (va_up n 0 (spType n f vv a).2.1) (va_up f 0 (spType n f vv a).2.2) k b q g tx2 kp := by
  obtain ⟨hI, hM, hT, hR, hL, hG, ho1, ho2, hIm, hkp⟩ := h
  refine ⟨hI, hM, ⟨?_, ?_, ht⟩, hR, hL, hG, ho1, ho2, hIm, hkp⟩
  · show (spType n f vv a).2.1 ≤ 200
    unfold spType
    cases e : ir a 1 8 with
    | none => exact hT.1
    | some nn =>
      simp only [Option.elim]
      by_cases e1 : n 0 + nn ≤ 200
      · simp only [if_pos e1]; exact e1
      · simp only [if_neg e1]; exact hT.1
  · show ∀ x, x < (spType n f vv a).2.1 → (spType n f vv a).2.2 x ≤ 255
    unfold spType
    cases e : ir a 1 8 with
    | none => exact hT.2.1
    | some nn =>
      simp only [Option.elim]
      by_cases e1 : n 0 + nn ≤ 200
      · simp only [if_pos e1]
        intro x hx
        unfold tyC
        by_cases e2 : n 0 ≤ x ∧ x < n 0 + (nn - 0)
        · rw [if_pos e2]; have := byX_lt vv (nn - 1 - (x - n 0)); omega
        · rw [if_neg e2]; exact hT.2.1 x (by omega)
      · simp only [if_neg e1]; exact hT.2.1
theorem LI_clear {n : Nat → Nat} {f : Nat → Nat → Nat} {k : Nat → Nat} {b : Nat → Bool} {q : Nat} {g : Nat → Nat → Nat} {tx : Nat → Int32} {kp : Nat → Bool} (h : LI n f k b q g tx kp) : LI (va_up n 0 0) f k b q g tx kp := by
  obtain ⟨hI, hM, hT, hR, hL, hG, ho1, ho2, hIm, hkp⟩ := h
  exact ⟨hI, hM, ⟨Nat.zero_le _, fun x hx => absurd hx (Nat.not_lt_zero _), fun x hx => absurd hx (Nat.not_lt_zero _)⟩, hR, hL, hG, ho1, ho2, hIm, hkp⟩
theorem adT_hi (u : Nat → Nat) (m a0 a1 a2 a3 : Nat) : adT u m a0 a1 a2 a3 m = a0 ∧ adT u m a0 a1 a2 a3 (m + 1) = a1 ∧ adT u m a0 a1 a2 a3 (m + 2) = a2 ∧ adT u m a0 a1 a2 a3 (m + 3) = a3 := by
  refine ⟨?_, ?_, ?_, ?_⟩ <;> simp [adT, va_up, Nat.add_assoc]
theorem TI_add {n : Nat → Nat} {f : Nat → Nat → Nat} (hT : TI n f) (a a2 a3 a4 : Int32) : (spTold n f a a2 a3 a4).2.1 ≤ 8 ∧ ∀ i, i < (spTold n f a a2 a3 a4).2.1 → (spTold n f a a2 a3 a4).2.2 (4 * i) ≤ 60 ∧ (spTold n f a a2 a3 a4).2.2 (4 * i + 1) ≤ 9 ∧ (spTold n f a a2 a3 a4).2.2 (4 * i + 2) ≤ 9 ∧ (spTold n f a a2 a3 a4).2.2 (4 * i + 3) ≤ 999 := by
  unfold spTold
  cases e1 : irT a a2 a3 with
  | none => exact hT
  | some v =>
    cases e2 : ir a4 0 999 with
    | none => exact hT
    | some c =>
      simp only [Option.elim]
      have hv := irT_in e1
      have hc := ir_in (by decide) (by decide) e2
      by_cases e3 : n 6 < 8
      · simp only [if_pos e3]
        refine ⟨by omega, fun i hi => ?_⟩
        by_cases e : i = n 6
        · subst e
          obtain ⟨a0, a1, a2, a3⟩ := adT_hi (f 6) (4 * n 6) v.1 v.2.1 v.2.2 c
          rw [a0, a1, a2, a3]
          exact ⟨hv.1, hv.2.1, hv.2.2, hc.2⟩
        · have hl : ∀ x, x < 4 → adT (f 6) (4 * n 6) v.1 v.2.1 v.2.2 c (4 * i + x) = f 6 (4 * i + x) := fun x hx => by
            simp only [adT, va_up]
            repeat rw [if_neg (by omega)]
          have h2 := hT.2 i (by omega)
          rw [show 4 * i = 4 * i + 0 from rfl, hl 0 (by decide), hl 1 (by decide), hl 2 (by decide), hl 3 (by decide)]
          exact h2
      · simp only [if_neg e3]; exact hT
theorem LI_told {n : Nat → Nat} {f : Nat → Nat → Nat} {k : Nat → Nat} {b : Nat → Bool} {q : Nat} {g : Nat → Nat → Nat} {tx : Nat → Int32} {kp : Nat → Bool} (h : LI n f k b q g tx kp) (a a2 a3 a4 : Int32) {u : Nat → Nat} (hu : ∀ x, x < 4 * (spTold n f a a2 a3 a4).2.1 → u x = (spTold n f a a2 a3 a4).2.2 x) : LI (va_up n 6 (spTold n f a a2 a3 a4).2.1) (va_up f 6 (spTold n f a a2 a3 a4).2.2) k b q (va_up g 12 u) tx kp := by
  obtain ⟨hI, hM, hT, hR, hL, hG, ho1, ho2, hIm, hkp⟩ := h
  obtain ⟨i4, i5, i6, iq, iw, il, hN⟩ := hI
  have ht := TI_add hL.1 a a2 a3 a4
  exact ⟨⟨i4, i5, ht.1, iq, iw, il, hN⟩, hM, hT, hR, ⟨ht, hu⟩, hG, ho1, ho2, hIm, hkp⟩
theorem LI_forget {n : Nat → Nat} {f : Nat → Nat → Nat} {k : Nat → Nat} {b : Nat → Bool} {q : Nat} {g : Nat → Nat → Nat} {tx : Nat → Int32} {kp : Nat → Bool} (h : LI n f k b q g tx kp) : LI (va_up n 6 0) f k b q g tx kp := by
  obtain ⟨hI, hM, hT, hR, hL, hG, ho1, ho2, hIm, hkp⟩ := h
  obtain ⟨i4, i5, i6, iq, iw, il, hN⟩ := hI
  exact ⟨⟨i4, i5, Nat.zero_le _, iq, iw, il, hN⟩, hM, hT, hR, ⟨⟨Nat.zero_le _, fun x hx => absurd hx (Nat.not_lt_zero _)⟩, fun x hx => absurd hx (Nat.not_lt_zero _)⟩, hG, ho1, ho2, hIm, hkp⟩
theorem LI_keep {n : Nat → Nat} {f : Nat → Nat → Nat} {k : Nat → Nat} {b : Nat → Bool} {q : Nat} {g : Nat → Nat → Nat} {tx : Nat → Int32} {kp : Nat → Bool} (h : LI n f k b q g tx kp) (a : Int32) {u : Nat → Nat} {kp2 : Nat → Bool} (h1 : reN (n 5) u (f 7) (n 8) (f 8) (k 5)) (h2 : kp2 0 = (spKeep n f k b a).2.2.2.2.2.2.2.2.2.2.2.1 ∧ kp2 1 = (spKeep n f k b a).2.2.2.2.2.2.2.2.2.2.2.2) (h3 : rIm (n 5) u (spKeep n f k b a).2.2.2.2.2.2.2.2.2.2.2.1 (spKeep n f k b a).2.2.2.2.2.2.2.2.2.2.2.2 (spKeep n f k b a).2.2.1 (spKeep n f k b a).2.2.2.1 (spKeep n f k b a).2.2.2.2.1 (spKeep n f k b a).2.2.2.2.2.1 (spKeep n f k b a).2.2.2.2.2.2.2.1 (spKeep n f k b a).2.2.2.2.2.2.2.2.1 (spKeep n f k b a).2.2.2.2.2.2.2.2.2.1 (spKeep n f k b a).2.2.2.2.2.2.2.2.2.2.1) : LI (va_up (va_up (va_up (va_up n 9 (spKeep n f k b a).2.1) 10 (spKeep n f k b a).2.2.2.1) 11 (spKeep n f k b a).2.2.2.2.2.2.1) 12 (spKeep n f k b a).2.2.2.2.2.2.2.2.1) (va_up (va_up (va_up (va_up f 9 (spKeep n f k b a).2.2.1) 10 (spKeep n f k b a).2.2.2.2.1) 11 (spKeep n f k b a).2.2.2.2.2.2.2.1) 12 (spKeep n f k b a).2.2.2.2.2.2.2.2.2.1) (va_up (va_up k 6 (spKeep n f k b a).2.2.2.2.2.1) 7 (spKeep n f k b a).2.2.2.2.2.2.2.2.2.2.1) (va_up (va_up b 1 (spKeep n f k b a).2.2.2.2.2.2.2.2.2.2.2.1) 2 (spKeep n f k b a).2.2.2.2.2.2.2.2.2.2.2.2) q (va_up g 10 u) tx kp2 := by
  obtain ⟨hI, hM, hT, hR, hL, hG, ho1, ho2, hIm, hkp⟩ := h
  have hN := hI.2.2.2.2.2.2
  obtain ⟨m2, m3, m4, m5, -⟩ := hM
  have h57 : n 7 ≤ 6 := by rw [hN.1]; exact hI.2.1
  refine ⟨hI, ⟨m2, m3, m4, m5, h1⟩, hT, hR, hL, ?_, ?_, ?_, h3, h2⟩
  · show (spKeep n f k b a).2.1 ≤ 6 ∧ (spKeep n f k b a).2.2.2.1 ≤ 12 ∧ (spKeep n f k b a).2.2.2.2.2.2.1 ≤ 6 ∧ (spKeep n f k b a).2.2.2.2.2.2.2.2.1 ≤ 12
    unfold spKeep
    cases e : ir a 0 1 with
    | none => exact hG
    | some w =>
      simp only [Option.elim]
      by_cases e0 : w = 0
      · simp only [if_pos e0]; exact ⟨h57, hN.2.1, hG.2.2⟩
      · simp only [if_neg e0]; exact ⟨hG.1, hG.2.1, h57, hN.2.1⟩
  · show (spKeep n f k b a).2.2.2.2.2.2.2.2.2.2.2.1 = true → okN (n 5) (n 4) (f 5) (f 4) q (spKeep n f k b a).2.1 (spKeep n f k b a).2.2.1 (spKeep n f k b a).2.2.2.1 (spKeep n f k b a).2.2.2.2.1 (spKeep n f k b a).2.2.2.2.2.1
    unfold spKeep
    cases e : ir a 0 1 with
    | none => exact ho1
    | some w =>
      simp only [Option.elim]
      by_cases e0 : w = 0
      · simp only [if_pos e0]; exact fun _ => okN_cp hN _ _
      · simp only [if_neg e0]; exact ho1
  · show (spKeep n f k b a).2.2.2.2.2.2.2.2.2.2.2.2 = true → okN (n 5) (n 4) (f 5) (f 4) q (spKeep n f k b a).2.2.2.2.2.2.1 (spKeep n f k b a).2.2.2.2.2.2.2.1 (spKeep n f k b a).2.2.2.2.2.2.2.2.1 (spKeep n f k b a).2.2.2.2.2.2.2.2.2.1 (spKeep n f k b a).2.2.2.2.2.2.2.2.2.2.1
    unfold spKeep
    cases e : ir a 0 1 with
    | none => exact ho2
    | some w =>
      simp only [Option.elim]
      by_cases e0 : w = 0
      · simp only [if_pos e0]; exact ho2
      · simp only [if_neg e0]; exact fun _ => okN_cp hN _ _
theorem LI_gate {n : Nat → Nat} {f : Nat → Nat → Nat} {k : Nat → Nat} {b : Nat → Bool} {q : Nat} {g : Nat → Nat → Nat} {tx : Nat → Int32} {kp : Nat → Bool} {n2 : Nat → Nat} {f2 : Nat → Nat → Nat} {k2 : Nat → Nat} {b2 : Nat → Bool} {g2 : Nat → Nat → Nat} {kp2 : Nat → Bool} {o : Nat ⊕ (Nat × Nat × Nat × Nat × (Nat → Nat) × (Nat → Nat))} {r r2 : Int32} {n0 t0 : Nat} (h : LI n f k b q g tx kp) (hX : gP o n f k b r n2 f2 k2 b2) (hY : gM o (n 0) (n 6) g kp r2 n0 t0 g2 kp2) : r = r2 ∧ n0 = n2 0 ∧ t0 = n2 6 ∧ LI n2 f2 k2 b2 q (va_up g2 12 (g 12)) tx kp2 := by
  obtain ⟨hI, hM, hT, hR, hL, hG, ho1, ho2, hIm, hkp⟩ := h
  cases o with
  | inl x =>
    obtain ⟨hR2, hr, hn, hk, hb⟩ := hX
    obtain ⟨hr2, ⟨l2, l3, l4, l5, l10⟩, rfl, rfl, rfl⟩ := hY
    have N : ∀ i, i = 0 ∨ 4 ≤ i → n2 i = n i := fun i hi => (hn i hi).1
    have E : ∀ i, i = 0 ∨ 4 ≤ i → f2 i = f i := fun i hi => (hn i hi).2
    refine ⟨hr.trans hr2.symm, (N 0 (by decide)).symm, (N 6 (by decide)).symm, ?_⟩
    unfold LI
    rw [hb 1 (by decide), hb 2 (by decide)]
    have e10 : va_up g2 12 (g 12) 10 = g 10 := (va_up_ne _ _ (by decide)).trans (l10 10 (by decide))
    rw [e10, show va_up g2 12 (g 12) 12 = g 12 from va_up_self _ _ _]
    obtain ⟨i4, i5, i6, iq, iw, il, hN⟩ := hI
    obtain ⟨m2, m3, m4, m5, m10⟩ := hM
    unfold TI at *
    have N0 := N 0 (by decide)
    have N4 := N 4 (by decide)
    have N5 := N 5 (by decide)
    have N6 := N 6 (by decide)
    have N7 := N 7 (by decide)
    have N8 := N 8 (by decide)
    have N9 := N 9 (by decide)
    have N10 := N 10 (by decide)
    have N11 := N 11 (by decide)
    have N12 := N 12 (by decide)
    have E0 := E 0 (by decide)
    have E4 := E 4 (by decide)
    have E5 := E 5 (by decide)
    have E6 := E 6 (by decide)
    have E7 := E 7 (by decide)
    have E8 := E 8 (by decide)
    have E9 := E 9 (by decide)
    have E10 := E 10 (by decide)
    have E11 := E 11 (by decide)
    have E12 := E 12 (by decide)
    have K5 := hk 5 (by decide)
    have K6 := hk 6 (by decide)
    have K7 := hk 7 (by decide)
    refine ⟨?_, ?_, ?_, hR2, ?_, ?_, ?_, ?_, ?_, hkp⟩
    · unfold XI
      rw [N4, N5, N6, N7, N8, E4, E5, E7, E8, K5]
      exact ⟨i4, i5, i6, iq, iw, il, hN⟩
    · unfold RQ rLaw
      rw [N4, N5, N8, E4, E5, E7, E8, K5, show va_up g2 12 (g 12) 10 = g 10 from e10]
      refine ⟨l2.trans m2, fun l hl => (l3 l (by omega)).trans (m3 l hl), l4.trans m4, fun t ht => ?_, m10⟩
      have h5 := l5 t (by omega)
      have h6 := m5 t ht
      exact ⟨h5.1.trans h6.1, h5.2.1.trans h6.2.1, h5.2.2.1.trans h6.2.2.1, h5.2.2.2.trans h6.2.2.2⟩
    · rw [N0, E0]; exact hT
    · rw [N6, E6]; exact hL
    · rw [N9, N10, N11, N12]; exact hG
    · rw [N4, N5, N9, N10, E4, E5, E9, E10, K6]; exact ho1
    · rw [N4, N5, N11, N12, E4, E5, E11, E12, K7]; exact ho2
    · rw [N5, N10, N12, E9, E10, E11, E12, K6, K7]; exact hIm
  | inr z =>
    obtain ⟨nl, nt, he, it, wl, lw⟩ := z
    obtain ⟨hR2, hr, hn0, ⟨hn4, hn5, hn6, hn7, hn8⟩, ⟨hf0, hf4, hf5, hf7⟩, hk5, ⟨hb1, hb2⟩, hn9⟩ := hX
    obtain ⟨hr2, ⟨c1, c2, c3, c4, c5⟩, d2, d3, d4, d5, d10, ⟨rfl, rfl⟩, p0, p1⟩ := hY
    dsimp only at hr hr2 hn4 hn5 hn7 hf4 hf5 hf7 hk5 c1 c2 c3 c4 c5 d2 d3 d4 d5 d10
    refine ⟨hr.trans hr2.symm, hn0.symm, hn6.symm, ?_⟩
    obtain ⟨i4, i5, i6, iq, iw, il, hN⟩ := hI
    have e9 := (hn9 9 (by decide)).1
    have e10 := (hn9 10 (by decide)).1
    have e11 := (hn9 11 (by decide)).1
    have e12 := (hn9 12 (by decide)).1
    have f1 : ¬ b2 1 = true := by rw [hb1]; decide
    have f2' : ¬ b2 2 = true := by rw [hb2]; decide
    refine ⟨⟨by omega, by omega, by omega, iq, fun l hl => ?_, fun t ht => ?_, ?_⟩, ⟨?_, fun l hl => ?_, ?_, fun t ht => ?_, ?_⟩, ⟨by omega, fun x hx => by omega, fun x hx => by omega⟩, hR2, ⟨⟨by omega, fun x hx => by omega⟩, fun x hx => by omega⟩, ⟨by omega, by omega, by omega, by omega⟩, fun z => absurd z f1, fun z => absurd z f2', ⟨fun z => absurd z f1, fun z => absurd z f2'⟩, p0.trans hb1.symm, p1.trans hb2.symm⟩
    · rw [hf4, cpN_at (by omega)]; exact c4 l (by omega)
    · rw [hf5, cpN_at (by omega)]; exact c5 t (by omega)
    · refine ⟨by omega, by omega, by omega, fun t ht => ?_, fun i hi => by omega⟩
      rw [hf7]; unfold zeF; rw [cpN_at (by omega)]; exact Nat.zero_le _
    · show g2 2 0 = n2 4; rw [d2, hn4]
    · show g2 3 l = f2 4 l; rw [hf4, cpN_at (by omega), d3 l (by omega)]
    · show g2 4 0 = n2 5; rw [d4, hn5]
    · show g2 5 t = lP (f2 5 t) 0 ∧ g2 6 t = lP (f2 5 t) 1 ∧ g2 7 t = lP (f2 5 t) 2 ∧ g2 8 t = lP (f2 5 t) 3
      rw [hf5, cpN_at (by omega)]; exact d5 t (by omega)
    · show reN (n2 5) (g2 10) (f2 7) (n2 8) (f2 8) (k2 5)
      refine ⟨fun t ht => ?_, ?_, ?_, fun x hx => by omega⟩
      · rw [d10 t (by omega), if_neg (by omega)]
        split
        · rw [hf7]; unfold zeF; rw [cpN_at (by omega)]
        · rfl
      · rw [d10 6 (by decide), if_pos rfl, hk5]
      · rw [d10 7 (by decide), if_neg (by decide), hn8]
theorem LI_0 : LI (fun _ => 0) (fun _ _ => 0) (fun _ => 0) (fun _ => false) 0 (fun _ _ => 0) (fun _ => 0) (fun _ => false) := by
  refine ⟨⟨by decide, by decide, by decide, by decide, fun l hl => absurd hl (Nat.not_lt_zero _), fun l hl => absurd hl (Nat.not_lt_zero _), rfl, by decide, by decide, fun l hl => absurd hl (Nat.not_lt_zero _), fun l hl => absurd hl (Nat.not_lt_zero _)⟩, ⟨rfl, fun l hl => absurd hl (Nat.not_lt_zero _), rfl, fun l hl => absurd hl (Nat.not_lt_zero _), fun t ht => by simp, rfl, rfl, fun x hx => rfl⟩, ⟨by decide, fun l hl => absurd hl (Nat.not_lt_zero _), fun l hl => absurd hl (Nat.not_lt_zero _)⟩, ⟨by decide, by decide, by decide⟩, ⟨⟨by decide, fun l hl => absurd hl (Nat.not_lt_zero _)⟩, fun x hx => rfl⟩, ⟨by decide, by decide, by decide, by decide⟩, fun z => absurd z (by decide), fun z => absurd z (by decide), ⟨fun z => absurd z (by decide), fun z => absurd z (by decide)⟩, rfl, rfl⟩
