def spn (Q : Nat → Bool) (F : Nat → Nat) (N : Nat) : Nat → Nat → Nat
  | 0, p => p
  | fuel + 1, p => if p < N ∧ Q (F p) = true then spn Q F N fuel (p + 1) else p
theorem spn_s {Q : Nat → Bool} {F : Nat → Nat} {N p : Nat} (h : p < N) (hq : Q (F p) = true) : spn Q F N (N - p) p = spn Q F N (N - (p + 1)) (p + 1) := by
  rw [show N - p = (N - (p + 1)) + 1 by omega, spn, if_pos ⟨h, hq⟩]
theorem spn_e {Q : Nat → Bool} {F : Nat → Nat} {N p : Nat} (h : N ≤ p ∨ Q (F p) = false) : spn Q F N (N - p) p = p := by
  cases N - p with
  | zero => rfl
  | succ m =>
    rw [spn, if_neg]
    rintro ⟨h1, h2⟩
    rcases h with h | h
    · omega
    · rw [h] at h2; cases h2
theorem spn_in (Q : Nat → Bool) (F : Nat → Nat) (N : Nat) : ∀ fuel p, p ≤ spn Q F N fuel p ∧ spn Q F N fuel p ≤ p + fuel
  | 0, p => ⟨Nat.le_refl _, Nat.le_refl _⟩
  | fuel + 1, p => by
    have h := spn_in Q F N fuel (p + 1)
    rw [spn]; split <;> omega
abbrev isB (c : Nat) : Bool := decide (c = 32)
def tSt (F : Nat → Nat) (N p : Nat) : Nat := spn isB F N (N - p) p
def dEn (F : Nat → Nat) (N s : Nat) : Nat := spn isD F N (N - s) s
def lEn (F : Nat → Nat) (N s : Nat) : Nat := spn isL F N (N - s) s
def dKd (F : Nat → Nat) (N s : Nat) : Nat := if dEn F N s - s = 1 ∨ (dEn F N s - s = 2 ∧ F s ≠ 48) then 5 else 1
def dVl (F : Nat → Nat) (N s : Nat) : Nat := if dEn F N s - s = 1 then F s - 48 else 10 * (F s - 48) + (F (s + 1) - 48)
def lKd (F : Nat → Nat) (N s : Nat) : Nat := if isW F s (lEn F N s) 0 = true then 2 else if isW F s (lEn F N s) 1 = true then 3 else if isW F s (lEn F N s) 2 = true then 4 else 1
def tNx (F : Nat → Nat) (N p : Nat) : Nat := if N ≤ tSt F N p then tSt F N p else if isD (F (tSt F N p)) = true then dEn F N (tSt F N p) else if isL (F (tSt F N p)) = true then lEn F N (tSt F N p) else tSt F N p + 1
def tKd (F : Nat → Nat) (N p : Nat) : Nat := if N ≤ tSt F N p then 0 else if isD (F (tSt F N p)) = true then dKd F N (tSt F N p) else if isL (F (tSt F N p)) = true then lKd F N (tSt F N p) else if F (tSt F N p) = 59 then 6 else 1
def tVl (F : Nat → Nat) (N p : Nat) : Nat := dVl F N (tSt F N p)
theorem tKd_le (F : Nat → Nat) (N p : Nat) : tKd F N p ≤ 6 := by
  unfold tKd dKd lKd
  repeat' split
  all_goals omega
theorem tSt_in {F : Nat → Nat} {N p : Nat} (h : p ≤ N) : p ≤ tSt F N p ∧ tSt F N p ≤ N := by
  have := spn_in isB F N (N - p) p
  unfold tSt; omega
theorem dEn_in {F : Nat → Nat} {N s : Nat} (h : s ≤ N) : s ≤ dEn F N s ∧ dEn F N s ≤ N := by
  have := spn_in isD F N (N - s) s
  unfold dEn; omega
theorem lEn_in {F : Nat → Nat} {N s : Nat} (h : s ≤ N) : s ≤ lEn F N s ∧ lEn F N s ≤ N := by
  have := spn_in isL F N (N - s) s
  unfold lEn; omega
theorem dEn_gt {F : Nat → Nat} {N s : Nat} (h : s < N) (hd : isD (F s) = true) : s < dEn F N s := by
  have h1 := spn_s (Q := isD) h hd
  have h2 := spn_in isD F N (N - (s + 1)) (s + 1)
  unfold dEn; omega
theorem lEn_gt {F : Nat → Nat} {N s : Nat} (h : s < N) (hd : isL (F s) = true) : s < lEn F N s := by
  have h1 := spn_s (Q := isL) h hd
  have h2 := spn_in isL F N (N - (s + 1)) (s + 1)
  unfold lEn; omega
theorem tNx_in {F : Nat → Nat} {N p : Nat} (h : p ≤ N) : tSt F N p ≤ tNx F N p ∧ tNx F N p ≤ N ∧ (tKd F N p ≠ 0 → tSt F N p < tNx F N p) := by
  have h1 := tSt_in (F := F) h
  have h2 := dEn_in (F := F) h1.2
  have h3 := lEn_in (F := F) h1.2
  unfold tNx tKd
  by_cases a : N ≤ tSt F N p
  · rw [if_pos a, if_pos a]; exact ⟨Nat.le_refl _, h1.2, fun z => absurd rfl z⟩
  · rw [if_neg a, if_neg a]
    by_cases d : isD (F (tSt F N p)) = true
    · have := dEn_gt (F := F) (N := N) (by omega) d
      rw [if_pos d]; omega
    · rw [if_neg d]
      by_cases l : isL (F (tSt F N p)) = true
      · have := lEn_gt (F := F) (N := N) (by omega) l
        rw [if_pos l]; omega
      · rw [if_neg l]; omega
def dgP (F : Nat → Nat) (s p : Nat) (vv : Int32) : Prop := (p = s → vv = nI 0) ∧ (p = s + 1 → vv = nI (F s - 48)) ∧ (p = s + 2 → vv = nI (10 * (F s - 48) + (F (s + 1) - 48)))
theorem dgP_0 (F : Nat → Nat) (s : Nat) : dgP F s s (nI 0) := ⟨fun _ => rfl, fun h => absurd h (by omega), fun h => absurd h (by omega)⟩
theorem dgP_s {F : Nat → Nat} {s p : Nat} {vv : Int32} (h : dgP F s p vv) (hp : s ≤ p) (hd : isD (F p) = true) : dgP F s (p + 1) (vv * nI 10 + nI (F p) - nI 48) := by
  have hd2 := of_decide_eq_true hd
  refine ⟨fun e => absurd e (by omega), fun e => ?_, fun e => ?_⟩
  · obtain rfl : p = s := by omega
    rw [h.1 rfl, pk_mul, nI_add, pk_sub (by omega)]
    congr 1; omega
  · obtain rfl : p = s + 1 := by omega
    rw [h.2.1 rfl, pk_mul, nI_add, pk_sub (by omega)]
    congr 1; omega
