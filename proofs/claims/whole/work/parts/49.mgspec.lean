theorem mS_ok2 {F : Nat → Nat} {N : Nat} {w : Nat ⊕ Nat} {at_ st so va : Nat} {fl : Int32} (h : mS F N w at_ st so va fl) (e : fl = -9) (hN : N ≤ 200) : ∃ p, w = .inr p := by
  cases w with
  | inl x => exact absurd e (mS_l h hN)
  | inr p => exact ⟨p, rfl⟩
def gm (g9 g : Nat → Nat → Nat) : Nat → Nat → Nat := fun i => if i < 10 then g9 i else g i
theorem LU_m {g g9 : Nat → Nat → Nat} (h : LU g g9) : LU g (gm g9 g) := by
  obtain ⟨h1, h2, h3, h4, h5⟩ := h
  refine ⟨h1, h2, h3, h4, fun i hi => ?_⟩
  unfold gm; rw [if_neg (by omega)]
theorem LU_0 (g : Nat → Nat → Nat) : LU g (va_up (va_up (va_up g 2 (va_up (g 2) 1 0)) 4 (va_up (g 4) 1 0)) 9 (va_up (g 9) 1 0)) := by
  refine ⟨?_, fun x hx => ?_, ?_, fun x hx => ?_, fun i hi => ?_⟩
  · simp [va_up]
  · simp [va_up]
  · simp [va_up]
  · simp [va_up]
  · rw [va_up_ne _ _ (by omega), va_up_ne _ _ (by omega), va_up_ne _ _ (by omega)]
theorem R2_0 (g : Nat → Nat → Nat) (wl lw : Nat → Nat) : R2 (va_up (va_up (va_up g 2 (va_up (g 2) 1 0)) 4 (va_up (g 4) 1 0)) 9 (va_up (g 9) 1 0)) 0 0 0 wl lw := by
  refine ⟨?_, ?_, ?_, by decide, by decide, by decide, fun l hl => absurd hl (Nat.not_lt_zero _), fun l hl => absurd hl (Nat.not_lt_zero _)⟩
  · simp [va_up]
  · simp [va_up]
  · simp [va_up]
def cpD (u : Nat → Nat) (d m : Nat) : Nat → Nat := fun i => if i < m then u (d + i) else u i
theorem cpD_0 (u : Nat → Nat) (d : Nat) : cpD u d 0 = u := by funext i; unfold cpD; rw [if_neg (by omega)]
theorem cpD_s (u : Nat → Nat) (d m : Nat) : va_up (cpD u d m) m (u (d + m)) = cpD u d (m + 1) := by
  funext i
  unfold va_up cpD
  by_cases e : i = m
  · subst e; rw [if_pos rfl, if_pos (by omega)]
  · rw [if_neg e]
    by_cases h : i < m
    · rw [if_pos h, if_pos (by omega)]
    · rw [if_neg h, if_neg (by omega)]
theorem cpD_at {u : Nat → Nat} {d m i : Nat} (h : m ≤ i) : cpD u d m i = u i := by unfold cpD; rw [if_neg (by omega)]
theorem cpD_in {u : Nat → Nat} {d m i : Nat} (h : i < m) : cpD u d m i = u (d + i) := by unfold cpD; rw [if_pos h]
def gM (o : Nat ⊕ (Nat × Nat × Nat × Nat × (Nat → Nat) × (Nat → Nat))) (n0 t0 : Nat) (g : Nat → Nat → Nat) (kp : Nat → Bool) (r : Int32) (n2 t2 : Nat) (g2 : Nat → Nat → Nat) (kp2 : Nat → Bool) : Prop := o.elim (fun x => r = -10 - nI x ∧ LU g g2 ∧ n2 = n0 ∧ t2 = t0 ∧ kp2 = kp) (fun q => r = nI q.2.2.2.1 ∧ (q.1 ≤ 5 ∧ q.2.1 ≤ 6 ∧ q.2.2.1 ≤ 9 ∧ (∀ l, l < q.1 → q.2.2.2.2.1 l ≤ 60) ∧ ∀ t, t < q.2.1 → q.2.2.2.2.2 t < 3240) ∧ g2 2 0 = q.1 ∧ (∀ l, l < q.1 → g2 3 l = q.2.2.2.2.1 l) ∧ g2 4 0 = q.2.1 ∧ (∀ t, t < q.2.1 → g2 5 t = lP (q.2.2.2.2.2 t) 0 ∧ g2 6 t = lP (q.2.2.2.2.2 t) 1 ∧ g2 7 t = lP (q.2.2.2.2.2 t) 2 ∧ g2 8 t = lP (q.2.2.2.2.2 t) 3) ∧ (∀ x, x < 80 → g2 10 x = if x = 6 then q.2.2.1 else 0) ∧ (n2 = 0 ∧ t2 = 0) ∧ kp2 0 = false ∧ kp2 1 = false)
theorem gM_f {o : Nat ⊕ (Nat × Nat × Nat × Nat × (Nat → Nat) × (Nat → Nat))} {n0 t0 x : Nat} {g : Nat → Nat → Nat} {kp : Nat → Bool} {r : Int32} {n2 t2 : Nat} {g2 : Nat → Nat → Nat} {kp2 : Nat → Bool} (ho : o = .inl x) (h : r = -10 - nI x ∧ LU g g2 ∧ n2 = n0 ∧ t2 = t0 ∧ kp2 = kp) : gM o n0 t0 g kp r n2 t2 g2 kp2 := by
  subst ho; exact h
theorem gM_s {o : Nat ⊕ (Nat × Nat × Nat × Nat × (Nat → Nat) × (Nat → Nat))} {n0 t0 nl nt he it : Nat} {wl lw : Nat → Nat} {g : Nat → Nat → Nat} {kp : Nat → Bool} {g9 g2 : Nat → Nat → Nat} {kp2 : Nat → Bool} (ho : o = .inr (nl, nt, he, it, wl, lw)) (hR : R2 g9 nl nt he wl lw) {l9 m9 q9 : Nat} (hl : 5 ≤ l9) (hm : 6 ≤ m9) (hq : 80 ≤ q9) (e2 : g2 2 0 = nl) (e3 : g2 3 = cpD (g9 3) 5 l9) (e4 : g2 4 0 = nt) (e5 : g2 5 = cpD (g9 5) 6 m9) (e6 : g2 6 = cpD (g9 6) 6 m9) (e7 : g2 7 = cpD (g9 7) 6 m9) (e8 : g2 8 = cpD (g9 8) 6 m9) (e10 : g2 10 = va_up (zeF (g 10) q9) 6 he) (k0 : kp2 0 = false) (k1 : kp2 1 = false) : gM o n0 t0 g kp (nI it) 0 0 g2 kp2 := by
  subst ho
  obtain ⟨r1, r2, r3, r4, r5, r6, r7, r8⟩ := hR
  refine ⟨rfl, ⟨r4, r5, r6, fun l h => (r7 l h).2, fun t h => (r8 t h).1⟩, e2, fun l h => ?_, e4, fun t h => ?_, fun x hx => ?_, ⟨rfl, rfl⟩, k0, k1⟩
  · rw [e3, cpD_in (show l < l9 by have h2 : l < nl := h; omega)]; exact (r7 l h).1
  · have h2 : t < m9 := by have h2 : t < nt := h; omega
    rw [e5, e6, e7, e8, cpD_in h2, cpD_in h2, cpD_in h2, cpD_in h2]; exact (r8 t h).2
  · rw [e10]
    by_cases e : x = 6
    · subst e; rw [va_up_self, if_pos rfl]
    · rw [va_up_ne _ _ e, if_neg e]
      unfold zeF
      rw [cpN_at (by omega)]
