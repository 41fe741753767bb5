theorem en_plan {f : Nat → Nat → Nat} {plan t w w2 : Nat} {lk : Nat → Nat} (ht : t < 6) (hw : w2 + 1 = w ∧ w ≤ 3) (h : ∀ u, u < 6 → pd plan u ≤ 3 - w ∧ f 7 u + pd plan u = lk u) : ∀ u, u < 6 → pd (plan + 2 ^ (2 * t)) u ≤ 3 - w2 ∧ f 7 u + pd (plan + 2 ^ (2 * t)) u = va_up lk t (lk t + 1) u := by
  intro u hu
  have h1 := h u hu
  have h2 := h t ht
  rw [pd_add ht hu (by omega)]
  by_cases e : u = t
  · subst e
    rw [if_pos rfl]
    simp only [va_up, if_true]
    omega
  · rw [if_neg e]
    simp only [va_up, if_neg e]
    omega

theorem pd0 (u : Nat) : pd 0 u = 0 := by unfold pd; rw [Nat.zero_div]

theorem max9 {a : Nat} (h : a < 2 ^ 31) : (if (-9 : Int32) < nI a then nI a else -9) = nI a := by
  rw [if_pos]
  rw [Int32.lt_iff_toInt_lt, nI_toInt h]
  have : (-9 : Int32).toInt = -9 := rfl
  omega

theorem absd {a b : Nat} (ha : a < 2 ^ 30) (hb : b < 2 ^ 30) : (if 0 ≤ nI a - nI b then nI a - nI b else 0 - (nI a - nI b)) = nI (if b ≤ a then a - b else b - a) := by
  by_cases h : b ≤ a
  · rw [if_pos h, pk_sub h, if_pos (nI_pos' (by omega))]
  · rw [if_neg h, if_neg (by
      intro q
      have h1 := pk_sneg (a := a) (b := b) hb (by omega)
      exact absurd h1 (Int32.not_lt.mpr q)), ← pk_sub (show a ≤ b by omega)]
    apply Int32.toInt_inj.mp
    rw [Int32.toInt_sub, Int32.toInt_sub, Int32.toInt_sub, nI_toInt (by omega), nI_toInt (by omega)]
    have : (0 : Int32).toInt = 0 := rfl
    rw [this]
    have e1 : ((a : Int) - b).bmod (2 ^ 32) = (a : Int) - b := Int.bmod_eq_of_le (by omega) (by omega)
    rw [e1, Int.zero_sub]
    congr 1
    omega
