def hrV (F : Nat → Nat) (N p : Nat) : Int32 := if p < N then nI (F p) else -1
theorem hr_in {F : Nat → Nat} {N p lo hi : Nat} (hF : ∀ x, x < N → F x ≤ 255) (hl : lo < 2 ^ 31) (hh : hi < 2 ^ 31) : inR (hrV F N p) (nI lo) (nI hi) = (decide (p < N) && decide (lo ≤ F p ∧ F p ≤ hi)) := by
  unfold hrV
  by_cases h : p < N
  · have := hF p h
    rw [if_pos h, decide_eq_true h, Bool.true_and, inR_nI hl hh (by omega)]
  · rw [if_neg h, decide_eq_false h, Bool.false_and]
    refine decide_eq_false (fun z => ?_)
    have h1 := z.1
    rw [Int32.le_iff_toInt_le, nI_toInt hl, show (-1 : Int32).toInt = -1 from rfl] at h1
    omega
theorem and_f {p N : Nat} {b : Bool} (h : (decide (p < N) && b) = false) : N ≤ p ∨ b = false := by
  by_cases e : p < N
  · rw [decide_eq_true e, Bool.true_and] at h; exact Or.inr h
  · exact Or.inl (by omega)
theorem and_t {p N : Nat} {b : Bool} (h : (decide (p < N) && b) = true) : p < N ∧ b = true := by
  by_cases e : p < N
  · rw [decide_eq_true e, Bool.true_and] at h; exact ⟨e, h⟩
  · rw [decide_eq_false e, Bool.false_and] at h; cases h
def mK (c : Nat) : Nat := if c = 0 then 3 else if c = 1 then 6 else if c = 2 then 0 else if c = 3 then 1 else if c = 4 then 2 else if c = 5 then 4 else 5
def dgM (F : Nat → Nat) (s p vv : Nat) : Prop := (p = s → vv = 0) ∧ (p = s + 1 → vv = F s - 48) ∧ (p = s + 2 → vv = 10 * (F s - 48) + (F (s + 1) - 48)) ∧ (s + 3 ≤ p → F s ≠ 48 → 99 < vv) ∧ vv ≤ 999 ∧ (s + 2 ≤ p → F (s + 1) ≤ 57)
theorem dgM_0 (F : Nat → Nat) (s : Nat) : dgM F s s 0 := by
  refine ⟨fun _ => rfl, ?_, ?_, ?_, ?_, ?_⟩ <;> intros <;> omega
theorem dgM_s1 {F : Nat → Nat} {s p vv : Nat} (h : dgM F s p vv) (hp : s ≤ p) (hs : isD (F s) = true) (hd : isD (F p) = true) (h9 : vv ≤ 99) : dgM F s (p + 1) (10 * vv + F p - 48) := by
  have hs2 := of_decide_eq_true hs
  have hd2 := of_decide_eq_true hd
  obtain ⟨a0, a1, a2, a3, a4, a5⟩ := h
  refine ⟨fun e => absurd e (by omega), fun e => ?_, fun e => ?_, fun e e2 => ?_, by omega, fun e => ?_⟩
  · obtain rfl : p = s := by omega
    rw [a0 rfl]; omega
  · obtain rfl : p = s + 1 := by omega
    rw [a1 rfl]; omega
  · rcases (show p = s + 2 ∨ s + 3 ≤ p by omega) with e3 | e3
    · rw [a2 e3]; omega
    · have := a3 e3 e2; omega
  · rcases (show p = s + 1 ∨ s + 2 ≤ p by omega) with e3 | e3
    · rw [← e3]; omega
    · exact a5 e3
theorem dgM_s2 {F : Nat → Nat} {s p vv : Nat} (h : dgM F s p vv) (hp : s ≤ p) (hs : isD (F s) = true) (h9 : 99 < vv) : dgM F s (p + 1) vv := by
  have hs2 := of_decide_eq_true hs
  obtain ⟨a0, a1, a2, a3, a4, a5⟩ := h
  refine ⟨fun e => absurd e (by omega), fun e => ?_, fun e => ?_, fun e e2 => h9, a4, fun e => ?_⟩
  · have := a0 (by omega); omega
  · have := a1 (by omega); omega
  · rcases (show p = s ∨ p = s + 1 ∨ s + 2 ≤ p by omega) with e3 | e3 | e3
    · have := a0 e3; omega
    · have := a1 e3; omega
    · exact a5 e3
theorem dgM_k {F : Nat → Nat} {N s vv : Nat} (h : dgM F s (dEn F N s) vv) (hg : s < dEn F N s) (hs : isD (F s) = true) : (99 < vv ∨ (F s = 48 ∧ 1 < dEn F N s - s) → dKd F N s = 1) ∧ (vv ≤ 99 → (F s = 48 → dEn F N s - s ≤ 1) → dKd F N s = 5 ∧ vv = dVl F N s) := by
  have hs2 := of_decide_eq_true hs
  obtain ⟨a0, a1, a2, a3, a4, a5⟩ := h
  unfold dKd dVl
  generalize dEn F N s = e at *
  rcases (show e = s + 1 ∨ e = s + 2 ∨ s + 3 ≤ e by omega) with e3 | e3 | e3
  · have := a1 e3
    refine ⟨fun z => ?_, fun z z2 => ?_⟩
    · exfalso; omega
    · rw [if_pos (by omega), if_pos (by omega)]; exact ⟨rfl, by omega⟩
  · have := a2 e3
    have := a5 (by omega)
    refine ⟨fun z => ?_, fun z z2 => ?_⟩
    · rw [if_neg (by omega)]
    · rw [if_pos (by omega), if_neg (by omega)]; exact ⟨rfl, by omega⟩
  · refine ⟨fun z => ?_, fun z z2 => ?_⟩
    · rw [if_neg (by omega)]
    · exfalso
      by_cases q : F s = 48
      · have := z2 q; omega
      · have := a3 e3 q; omega
def wc (F : Nat → Nat) (s : Nat) : Nat → Nat
  | 0 => 0
  | i + 1 => 27 * wc F s i + (F (s + i) - 96)
theorem wc_lt {F : Nat → Nat} {s : Nat} : ∀ i, (∀ x, x < i → F (s + x) ≤ 122) → wc F s i + 1 ≤ 27 ^ i
  | 0, _ => Nat.le_refl _
  | i + 1, h => by
    have h1 := wc_lt i (fun x q => h x (by omega))
    have h2 := h i (by omega)
    rw [wc, Nat.pow_succ]; omega
theorem wc_b {F : Nat → Nat} {s i : Nat} (h : ∀ x, x < i → F (s + x) ≤ 122) (hi : i ≤ 6) : wc F s i + 1 ≤ 387420489 := by
  have h1 := wc_lt i h
  have h2 : 27 ^ i ≤ 27 ^ 6 := Nat.pow_le_pow_right (by decide) hi
  have h3 : (27 : Nat) ^ 6 = 387420489 := by decide
  rw [h3] at h2
  exact Nat.le_trans h1 h2
theorem wc_1 (F : Nat → Nat) (s : Nat) : wc F s 1 = F (s + 0) - 96 := by simp only [wc]; omega
theorem wc_2 (F : Nat → Nat) (s : Nat) : wc F s 2 = 27 * (F (s + 0) - 96) + (F (s + 1) - 96) := by rw [wc, wc_1]
theorem wc_3 (F : Nat → Nat) (s : Nat) : wc F s 3 = 729 * (F (s + 0) - 96) + 27 * (F (s + 1) - 96) + (F (s + 2) - 96) := by rw [wc, wc_2]; omega
theorem wc_4 (F : Nat → Nat) (s : Nat) : wc F s 4 = 19683 * (F (s + 0) - 96) + 729 * (F (s + 1) - 96) + 27 * (F (s + 2) - 96) + (F (s + 3) - 96) := by rw [wc, wc_3]; omega
theorem wc_5 (F : Nat → Nat) (s : Nat) : wc F s 5 = 531441 * (F (s + 0) - 96) + 19683 * (F (s + 1) - 96) + 729 * (F (s + 2) - 96) + 27 * (F (s + 3) - 96) + (F (s + 4) - 96) := by rw [wc, wc_4]; omega
theorem wc_6 (F : Nat → Nat) (s : Nat) : wc F s 6 = 14348907 * (F (s + 0) - 96) + 531441 * (F (s + 1) - 96) + 19683 * (F (s + 2) - 96) + 729 * (F (s + 3) - 96) + 27 * (F (s + 4) - 96) + (F (s + 5) - 96) := by rw [wc, wc_5]; omega
theorem isL_i {F : Nat → Nat} {s x e : Nat} (h : ∀ x, s ≤ x → x < e → isL (F x) = true) (hx : s + x < e) : 97 ≤ F (s + x) ∧ F (s + x) ≤ 122 := of_decide_eq_true (h (s + x) (by omega) hx)

theorem lw_0 {F : Nat → Nat} {s e : Nat} (h : ∀ x, s ≤ x → x < e → isL (F x) = true) (he : s < e ∧ e - s ≤ 6) : wc F s (e - s) = 247162 ↔ isW F s e 0 = true := by
  constructor
  · intro hw
    rcases (show e - s = 1 ∨ e - s = 2 ∨ e - s = 3 ∨ e - s = 4 ∨ e - s = 5 ∨ e - s = 6 by omega) with q | q | q | q | q | q
    · rw [q, wc_1] at hw
      have b0 := isL_i (x := 0) h (by omega)
      exfalso; omega
    · rw [q, wc_2] at hw
      have b0 := isL_i (x := 0) h (by omega)
      have b1 := isL_i (x := 1) h (by omega)
      exfalso; omega
    · rw [q, wc_3] at hw
      have b0 := isL_i (x := 0) h (by omega)
      have b1 := isL_i (x := 1) h (by omega)
      have b2 := isL_i (x := 2) h (by omega)
      exfalso; omega
    · rw [q, wc_4] at hw
      have b0 := isL_i (x := 0) h (by omega)
      have b1 := isL_i (x := 1) h (by omega)
      have b2 := isL_i (x := 2) h (by omega)
      have b3 := isL_i (x := 3) h (by omega)
      refine decide_eq_true ⟨q, fun x hx => ?_⟩
      have hx : x < 4 := hx
      rcases (show x = 0 ∨ x = 1 ∨ x = 2 ∨ x = 3 by omega) with rfl | rfl | rfl | rfl
      · show F (s + 0) = 108; omega
      · show F (s + 1) = 111; omega
      · show F (s + 2) = 97; omega
      · show F (s + 3) = 100; omega
    · rw [q, wc_5] at hw
      have b0 := isL_i (x := 0) h (by omega)
      have b1 := isL_i (x := 1) h (by omega)
      have b2 := isL_i (x := 2) h (by omega)
      have b3 := isL_i (x := 3) h (by omega)
      have b4 := isL_i (x := 4) h (by omega)
      exfalso; omega
    · rw [q, wc_6] at hw
      have b0 := isL_i (x := 0) h (by omega)
      have b1 := isL_i (x := 1) h (by omega)
      have b2 := isL_i (x := 2) h (by omega)
      have b3 := isL_i (x := 3) h (by omega)
      have b4 := isL_i (x := 4) h (by omega)
      have b5 := isL_i (x := 5) h (by omega)
      exfalso; omega
  · intro hw
    obtain ⟨q, hq⟩ := of_decide_eq_true hw
    have q : e - s = 4 := q
    have b0 : F (s + 0) = 108 := hq 0 (by decide)
    have b1 : F (s + 1) = 111 := hq 1 (by decide)
    have b2 : F (s + 2) = 97 := hq 2 (by decide)
    have b3 : F (s + 3) = 100 := hq 3 (by decide)
    rw [q, wc_4, b0, b1, b2, b3]

theorem lw_1 {F : Nat → Nat} {s e : Nat} (h : ∀ x, s ≤ x → x < e → isL (F x) = true) (he : s < e ∧ e - s ≤ 6) : wc F s (e - s) = 287898291 ↔ isW F s e 1 = true := by
  constructor
  · intro hw
    rcases (show e - s = 1 ∨ e - s = 2 ∨ e - s = 3 ∨ e - s = 4 ∨ e - s = 5 ∨ e - s = 6 by omega) with q | q | q | q | q | q
    · rw [q, wc_1] at hw
      have b0 := isL_i (x := 0) h (by omega)
      exfalso; omega
    · rw [q, wc_2] at hw
      have b0 := isL_i (x := 0) h (by omega)
      have b1 := isL_i (x := 1) h (by omega)
      exfalso; omega
    · rw [q, wc_3] at hw
      have b0 := isL_i (x := 0) h (by omega)
      have b1 := isL_i (x := 1) h (by omega)
      have b2 := isL_i (x := 2) h (by omega)
      exfalso; omega
    · rw [q, wc_4] at hw
      have b0 := isL_i (x := 0) h (by omega)
      have b1 := isL_i (x := 1) h (by omega)
      have b2 := isL_i (x := 2) h (by omega)
      have b3 := isL_i (x := 3) h (by omega)
      exfalso; omega
    · rw [q, wc_5] at hw
      have b0 := isL_i (x := 0) h (by omega)
      have b1 := isL_i (x := 1) h (by omega)
      have b2 := isL_i (x := 2) h (by omega)
      have b3 := isL_i (x := 3) h (by omega)
      have b4 := isL_i (x := 4) h (by omega)
      exfalso; omega
    · rw [q, wc_6] at hw
      have b0 := isL_i (x := 0) h (by omega)
      have b1 := isL_i (x := 1) h (by omega)
      have b2 := isL_i (x := 2) h (by omega)
      have b3 := isL_i (x := 3) h (by omega)
      have b4 := isL_i (x := 4) h (by omega)
      have b5 := isL_i (x := 5) h (by omega)
      refine decide_eq_true ⟨q, fun x hx => ?_⟩
      have hx : x < 6 := hx
      rcases (show x = 0 ∨ x = 1 ∨ x = 2 ∨ x = 3 ∨ x = 4 ∨ x = 5 by omega) with rfl | rfl | rfl | rfl | rfl | rfl
      · show F (s + 0) = 116; omega
      · show F (s + 1) = 97; omega
      · show F (s + 2) = 115; omega
      · show F (s + 3) = 116; omega
      · show F (s + 4) = 101; omega
      · show F (s + 5) = 114; omega
  · intro hw
    obtain ⟨q, hq⟩ := of_decide_eq_true hw
    have q : e - s = 6 := q
    have b0 : F (s + 0) = 116 := hq 0 (by decide)
    have b1 : F (s + 1) = 97 := hq 1 (by decide)
    have b2 : F (s + 2) = 115 := hq 2 (by decide)
    have b3 : F (s + 3) = 116 := hq 3 (by decide)
    have b4 : F (s + 4) = 101 := hq 4 (by decide)
    have b5 : F (s + 5) = 114 := hq 5 (by decide)
    rw [q, wc_6, b0, b1, b2, b3, b4, b5]

theorem lw_2 {F : Nat → Nat} {s e : Nat} (h : ∀ x, s ≤ x → x < e → isL (F x) = true) (he : s < e ∧ e - s ≤ 6) : wc F s (e - s) = 161156 ↔ isW F s e 2 = true := by
  constructor
  · intro hw
    rcases (show e - s = 1 ∨ e - s = 2 ∨ e - s = 3 ∨ e - s = 4 ∨ e - s = 5 ∨ e - s = 6 by omega) with q | q | q | q | q | q
    · rw [q, wc_1] at hw
      have b0 := isL_i (x := 0) h (by omega)
      exfalso; omega
    · rw [q, wc_2] at hw
      have b0 := isL_i (x := 0) h (by omega)
      have b1 := isL_i (x := 1) h (by omega)
      exfalso; omega
    · rw [q, wc_3] at hw
      have b0 := isL_i (x := 0) h (by omega)
      have b1 := isL_i (x := 1) h (by omega)
      have b2 := isL_i (x := 2) h (by omega)
      exfalso; omega
    · rw [q, wc_4] at hw
      have b0 := isL_i (x := 0) h (by omega)
      have b1 := isL_i (x := 1) h (by omega)
      have b2 := isL_i (x := 2) h (by omega)
      have b3 := isL_i (x := 3) h (by omega)
      refine decide_eq_true ⟨q, fun x hx => ?_⟩
      have hx : x < 4 := hx
      rcases (show x = 0 ∨ x = 1 ∨ x = 2 ∨ x = 3 by omega) with rfl | rfl | rfl | rfl
      · show F (s + 0) = 104; omega
      · show F (s + 1) = 101; omega
      · show F (s + 2) = 97; omega
      · show F (s + 3) = 116; omega
    · rw [q, wc_5] at hw
      have b0 := isL_i (x := 0) h (by omega)
      have b1 := isL_i (x := 1) h (by omega)
      have b2 := isL_i (x := 2) h (by omega)
      have b3 := isL_i (x := 3) h (by omega)
      have b4 := isL_i (x := 4) h (by omega)
      exfalso; omega
    · rw [q, wc_6] at hw
      have b0 := isL_i (x := 0) h (by omega)
      have b1 := isL_i (x := 1) h (by omega)
      have b2 := isL_i (x := 2) h (by omega)
      have b3 := isL_i (x := 3) h (by omega)
      have b4 := isL_i (x := 4) h (by omega)
      have b5 := isL_i (x := 5) h (by omega)
      exfalso; omega
  · intro hw
    obtain ⟨q, hq⟩ := of_decide_eq_true hw
    have q : e - s = 4 := q
    have b0 : F (s + 0) = 104 := hq 0 (by decide)
    have b1 : F (s + 1) = 101 := hq 1 (by decide)
    have b2 : F (s + 2) = 97 := hq 2 (by decide)
    have b3 : F (s + 3) = 116 := hq 3 (by decide)
    rw [q, wc_4, b0, b1, b2, b3]

theorem lw_l {F : Nat → Nat} {s e i : Nat} (hi : i < 3) (h : isW F s e i = true) : e - s ≤ 6 := by
  have h1 : e - s = lenW.getD i 0 := (of_decide_eq_true h).1
  rcases (show i = 0 ∨ i = 1 ∨ i = 2 by omega) with rfl | rfl | rfl
  · have h1 : e - s = 4 := h1
    omega
  · have h1 : e - s = 6 := h1
    omega
  · have h1 : e - s = 4 := h1
    omega

theorem isL_nD {c : Nat} (h : isL c = true) : ¬ isD c = true := fun z => by
  have h1 := of_decide_eq_true h
  have h2 := of_decide_eq_true z
  omega
