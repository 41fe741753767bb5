theorem upn {a b : Nat} (h : a = b) : a = b := h
def kn (u : Nat → Nat) (m t x h j c s : Nat) : Nat → Nat := va_up (va_up (va_up (va_up (va_up (va_up (va_up u (8 + 6 * m) t) (8 + 6 * m + 1) x) (8 + 6 * m + 2) h) (8 + 6 * m + 3) j) (8 + 6 * m + 4) c) (8 + 6 * m + 5) s) 7 (m + 1)
theorem kn_lo {u : Nat → Nat} {m t x h j c s i : Nat} (hi : i < 7) : kn u m t x h j c s i = u i := by
  unfold kn va_up
  repeat rw [if_neg (by omega)]
theorem reN_kn {nT : Nat} {u lk : Nat → Nat} {nf : Nat} {fc : Nat → Nat} {h : Nat} (H : reN nT u lk nf fc h) (t x j c s : Nat) : reN nT (kn u nf t x h j c s) lk (nf + 1) (adF fc (6 * nf) t x h j c s) h := by
  obtain ⟨h0, h6, h7, h8⟩ := H
  refine ⟨fun i hi => (kn_lo (by omega)).trans (h0 i hi), (kn_lo (by omega)).trans h6, ?_, fun y hy => ?_⟩
  · unfold kn va_up; rw [if_pos rfl]
  · by_cases q : y < 6 * nf
    · have := h8 y q
      unfold kn adF va_up
      repeat rw [if_neg (by omega)]
      exact this
    · obtain ⟨d, rfl⟩ : ∃ d, y = 6 * nf + d := ⟨y - 6 * nf, by omega⟩
      rcases (show d = 0 ∨ d = 1 ∨ d = 2 ∨ d = 3 ∨ d = 4 ∨ d = 5 by omega) with rfl | rfl | rfl | rfl | rfl | rfl <;> simp [kn, adF, va_up, Nat.add_assoc] <;> omega
theorem reN_lick {nT : Nat} {u lk : Nat → Nat} {nf : Nat} {fc : Nat → Nat} {h t : Nat} (H : reN nT u lk nf fc h) (ht : t < nT) (hT : nT ≤ 6) (x : Nat) : reN nT (va_up u t x) (va_up lk t x) nf fc h := by
  obtain ⟨h0, h6, h7, h8⟩ := H
  refine ⟨fun i hi => ?_, ?_, ?_, fun y hy => ?_⟩
  · by_cases e : i = t
    · subst e; simp [va_up, ht]
    · simp only [va_up, if_neg e]; exact h0 i hi
  · simp only [va_up]; rw [if_neg (by omega)]; exact h6
  · simp only [va_up]; rw [if_neg (by omega)]; exact h7
  · simp only [va_up]; rw [if_neg (by omega)]; exact h8 y hy
theorem lk_two {g : Nat → Nat} {t u : Nat} (h : t ≠ u) : va_up (va_up g t (g t + 1)) u (g u + 1) = lkUp (lkUp g t) u := by
  show _ = va_up _ _ (va_up g t (g t + 1) u + 1)
  rw [va_up_ne _ _ (Ne.symm h)]
theorem reN_heat {nT : Nat} {u lk : Nat → Nat} {nf : Nat} {fc : Nat → Nat} {h : Nat} (H : reN nT u lk nf fc h) (x : Nat) : reN nT (va_up u 6 x) lk nf fc x := by
  obtain ⟨h0, h6, h7, h8⟩ := H
  refine ⟨fun i hi => ?_, ?_, ?_, fun y hy => ?_⟩
  · simp only [va_up]; rw [if_neg (by omega)]; exact h0 i hi
  · simp [va_up]
  · simp only [va_up]; rw [if_neg (by omega)]; exact h7
  · simp only [va_up]; rw [if_neg (by omega)]; exact h8 y hy
theorem reN_less {nT : Nat} {u lk : Nat → Nat} {nf : Nat} {fc : Nat → Nat} {h : Nat} (H : reN nT u lk nf fc h) {m : Nat} (hm : m ≤ nf) : reN nT (va_up u 7 m) lk m fc h := by
  obtain ⟨h0, h6, h7, h8⟩ := H
  refine ⟨fun i hi => ?_, ?_, ?_, fun y hy => ?_⟩
  · simp only [va_up]; rw [if_neg (by omega)]; exact h0 i hi
  · simp only [va_up]; rw [if_neg (by omega)]; exact h6
  · simp [va_up]
  · simp only [va_up]; rw [if_neg (by omega)]; exact h8 y (by omega)
theorem reN_eq {nT : Nat} {u lk lk2 : Nat → Nat} {nf : Nat} {fc : Nat → Nat} {h : Nat} (H : reN nT u lk nf fc h) (e : ∀ t, t < nT → lk t = lk2 t) : reN nT u lk2 nf fc h := by
  obtain ⟨h0, h6, h7, h8⟩ := H
  refine ⟨fun i hi => ?_, h6, h7, h8⟩
  rw [h0 i hi]
  by_cases q : i < nT
  · rw [if_pos q, if_pos q, e i q]
  · rw [if_neg q, if_neg q]
theorem reN_zero {nT : Nat} {u lk : Nat → Nat} {nf : Nat} {fc : Nat → Nat} {h : Nat} (H : reN nT u lk nf fc h) : reN nT (zeF u 6) (zeF lk nT) nf fc h := by
  obtain ⟨h0, h6, h7, h8⟩ := H
  refine ⟨fun i hi => ?_, (zeF_at (by omega)).trans h6, (zeF_at (by omega)).trans h7, fun y hy => (zeF_at (by omega)).trans (h8 y hy)⟩
  unfold zeF cpN
  rw [if_pos hi]
  by_cases q : i < nT
  · rw [if_pos q, if_pos q]
  · rw [if_neg q]
theorem smS_cut {u lk : Nat → Nat} {nT : Nat} (h : ∀ t, t < 6 → u t = if t < nT then lk t else 0) : ∀ m, m ≤ 6 → smS u m = smS lk (min m nT)
  | 0, _ => by rw [Nat.zero_min]; rfl
  | m + 1, hm => by
    rw [smS, smS_cut h m (by omega), h m (by omega)]
    by_cases q : m < nT
    · rw [if_pos q, show min m nT = m by omega, show min (m + 1) nT = m + 1 by omega, smS]
    · rw [if_neg q, show min m nT = nT by omega, show min (m + 1) nT = nT by omega]; rfl
