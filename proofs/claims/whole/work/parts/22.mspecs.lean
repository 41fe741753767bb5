abbrev bF (kp : Nat → Bool) : Nat → Int32 := fun i => bI (kp i)
abbrev reN (nT : Nat) (u : Nat → Nat) (lk : Nat → Nat) (nf : Nat) (fc : Nat → Nat) (h : Nat) : Prop := (∀ t, t < 6 → u t = if t < nT then lk t else 0) ∧ u 6 = h ∧ u 7 = nf ∧ ∀ x, x < 6 * nf → u (8 + x) = fc x
abbrev rLaw (n : Nat → Nat) (f g : Nat → Nat → Nat) : Prop := ∀ t, t < n 5 → g 5 t = lP (f 5 t) 0 ∧ g 6 t = lP (f 5 t) 1 ∧ g 7 t = lP (f 5 t) 2 ∧ g 8 t = lP (f 5 t) 3
abbrev RQ (n : Nat → Nat) (f : Nat → Nat → Nat) (k : Nat → Nat) (g : Nat → Nat → Nat) : Prop := g 2 0 = n 4 ∧ (∀ l, l < n 4 → g 3 l = f 4 l) ∧ g 4 0 = n 5 ∧ rLaw n f g ∧ reN (n 5) (g 10) (f 7) (n 8) (f 8) (k 5)
theorem sneg_iff {a b : Nat} (ha : a < 2 ^ 30) (hb : b < 2 ^ 30) : nI a - nI b < 0 ↔ a < b := by
  constructor
  · intro h
    rcases Nat.lt_or_ge a b with q | q
    · exact q
    · rw [pk_sub q] at h
      exact absurd h (nI_pos (by omega))
  · exact pk_sneg hb
theorem canW_s (f : Nat → Nat → Nat) (i j w : Nat) : canW f (i + 1) j w = (canW f i j w && decide (cwP f j w i)) := by
  unfold canW
  by_cases h : ∀ a, a < i → cwP f j w a
  · by_cases h2 : cwP f j w i
    · rw [decide_eq_true h, decide_eq_true h2, decide_eq_true (lt_s h h2)]; rfl
    · rw [decide_eq_true h, decide_eq_false h2, decide_eq_false (fun z => h2 (z i (by omega)))]; rfl
  · rw [decide_eq_false h, decide_eq_false (fun z => h (fun a ha => z a (by omega)))]; rfl
theorem lwS_end {c : Nat → Nat} {hi fr mo : Nat} (h : hi < fr) : ∀ fu, lwS c hi fu fr mo = mo
  | 0 => rfl
  | fu + 1 => by rw [lwS, if_neg (by omega)]
theorem spA_end {c : Nat → Nat} {hi fr : Nat} {P : Nat → Nat → Bool} (h : hi < fr) : ∀ fu, spA c hi P fu fr = true
  | 0 => rfl
  | fu + 1 => by rw [spA, if_neg (by omega)]
theorem lw_spA (c : Nat → Nat) (hi m : Nat) : ∀ fu fr mo, lwS c hi fu fr mo ≤ m ↔ mo ≤ m ∧ spA c hi (fun a e => decide (e - a + 1 ≤ m)) fu fr = true
  | 0, fr, mo => by rw [lwS, spA]; simp
  | fu + 1, fr, mo => by
    rw [lwS, spA]
    by_cases h : fr ≤ hi
    · rw [if_pos h, if_pos h, lw_spA c hi m fu, Bool.and_eq_true, decide_eq_true_eq, show Nat.max mo _ = max mo _ from rfl, Nat.max_le]
      constructor
      · rintro ⟨⟨a, b⟩, d⟩; exact ⟨a, b, d⟩
      · rintro ⟨a, b, d⟩; exact ⟨⟨a, b⟩, d⟩
    · rw [if_neg h, if_neg h]; simp
theorem spA_imp {c : Nat → Nat} {hi : Nat} {P P2 : Nat → Nat → Bool} (h : ∀ a e, P a e = true → P2 a e = true) : ∀ fu fr, spA c hi P fu fr = true → spA c hi P2 fu fr = true
  | 0, _, _ => rfl
  | fu + 1, fr, q => by
    rw [spA] at q ⊢
    by_cases e : fr ≤ hi
    · rw [if_pos e] at q ⊢
      rw [Bool.and_eq_true] at q ⊢
      exact ⟨h _ _ q.1, spA_imp h fu _ q.2⟩
    · rw [if_neg e]
theorem enS_mono (nT : Nat) (c : Nat → Nat → Nat → Nat) (m : Nat) : ∀ w lk lo hi, enS nT c m w lk lo hi = true → enS nT c m (w + 1) lk lo hi = true
  | 0, lk, lo, hi, h => by
    rw [enS] at h
    rw [enS, h]; rfl
  | w + 1, lk, lo, hi, h => by
    rw [enS] at h ⊢
    rw [Bool.or_eq_true] at h ⊢
    rcases h with h | h
    · exact Or.inl h
    · refine Or.inr ?_
      obtain ⟨t, h1, h2⟩ := of_decide_eq_true h
      exact decide_eq_true ⟨t, h1, spA_imp (fun a e q => enS_mono nT c m w _ a e q) 61 lo h2⟩
theorem enS_size {nT : Nat} {c : Nat → Nat → Nat → Nat} {m w lo hi : Nat} {lk : Nat → Nat} (h : enS nT c m w lk lo hi = false) : ¬ hi - lo + 1 ≤ m := by
  intro q
  have : enS nT c m w lk lo hi = true := by
    cases w with
    | zero => rw [enS]; exact decide_eq_true q
    | succ w => rw [enS, decide_eq_true q]; rfl
  rw [h] at this; cases this
abbrev RK (n : Nat → Nat) (f : Nat → Nat → Nat) (k : Nat → Nat) (g : Nat → Nat → Nat) (lk : Nat → Nat) (Bq : Nat) : Prop := g 4 0 = n 5 ∧ rLaw n f g ∧ (∀ t, t < n 5 → g 10 t = lk t ∧ lk t ≤ Bq) ∧ g 10 6 = k 5 ∧ n 5 ≤ 6 ∧ (∀ t, t < n 5 → f 5 t < 3240) ∧ k 5 ≤ 9
theorem RK_up {n : Nat → Nat} {f : Nat → Nat → Nat} {k : Nat → Nat} {g : Nat → Nat → Nat} {lk : Nat → Nat} {Bq t : Nat} (h : RK n f k g lk Bq) (ht : t < n 5) : RK n f k (va_up g 10 (va_up (g 10) t (lk t + 1))) (va_up lk t (lk t + 1)) (Bq + 1) := by
  obtain ⟨h1, h2, h3, h4, h5, h6, h7⟩ := h
  refine ⟨h1, h2, fun u hu => ?_, ?_, h5, h6, h7⟩
  · have := h3 u hu
    have h8 := h3 t ht
    by_cases e : u = t
    · subst e; simp [va_up]; omega
    · simp [va_up, e]; omega
  · simp only [va_up, if_true]
    rw [if_neg (by omega)]; exact h4
theorem up_back {u : Nat → Nat} {t x : Nat} (h : u t = x) : va_up (va_up u t (x + 1)) t (x + 1 - 1) = u := by
  funext i
  by_cases e : i = t
  · subst e; simp [va_up, h]
  · simp [va_up, e]
theorem dk_lt {a b d t w n h : Nat} (ha : a ≤ 9) (hb : b ≤ 9) (hw : w ≤ 60) (hh : h ≤ 9) : dk a b d t w n h ≤ 558 := by
  have h1 : a * w ≤ 9 * 60 := Nat.mul_le_mul ha hw
  have h2 : dk a b d t w n h ≤ a * w - t * n + b + h := Nat.div_le_self _ _
  omega
