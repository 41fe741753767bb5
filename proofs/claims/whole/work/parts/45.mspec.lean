/-- the reader stands at the token of p with no fault, or has found a fault -/
def mS (F : Nat → Nat) (N : Nat) (w : Nat ⊕ Nat) (at_ st so va : Nat) (fl : Int32) : Prop := va ≤ 999 ∧ at_ ≤ N ∧ st ≤ N ∧ so ≤ 6 ∧ w.elim (fun x => x ≤ N ∧ fl = nI x) (fun p => p ≤ N ∧ fl = -9 ∧ at_ = tNx F N p ∧ st = tSt F N p ∧ so = mK (tKd F N p) ∧ (tKd F N p = 5 → va = tVl F N p))
def duS (F : Nat → Nat) (N : Nat) (w : Nat ⊕ Nat) (q : Nat → Bool) : Nat ⊕ Nat := w.elim Sum.inl (fun p => if q p = true then .inr (tNx F N p) else .inl (tSt F N p))
theorem mK_le (c : Nat) : mK c ≤ 6 := by
  unfold mK
  repeat' split
  all_goals omega
theorem mK_4 {c : Nat} (h : c ≤ 6) : mK c = 4 ↔ c = 5 := by
  unfold mK
  repeat' split
  all_goals omega
theorem mK_5 {c : Nat} (h : c ≤ 6) : mK c = 5 ↔ c = 6 := by
  unfold mK
  repeat' split
  all_goals omega
theorem nI_n9 {x : Nat} (h : x < 2 ^ 31) : nI x ≠ -9 := by
  intro e
  have := congrArg Int32.toInt e
  rw [nI_toInt h, show (-9 : Int32).toInt = -9 from rfl] at this
  omega
theorem mS_ok {F : Nat → Nat} {N : Nat} {w : Nat ⊕ Nat} {at_ st so va : Nat} (h : mS F N w at_ st so va (-9)) (hN : N ≤ 200) : ∃ p, w = .inr p ∧ p ≤ N ∧ at_ = tNx F N p ∧ st = tSt F N p ∧ so = mK (tKd F N p) ∧ (tKd F N p = 5 → va = tVl F N p) := by
  cases w with
  | inl x => exact absurd h.2.2.2.2.2.symm (nI_n9 (by have h1 : x ≤ N := h.2.2.2.2.1; omega))
  | inr p => exact ⟨p, rfl, h.2.2.2.2.1, h.2.2.2.2.2.2⟩
theorem mS_no {F : Nat → Nat} {N : Nat} {w : Nat ⊕ Nat} {at_ st so va : Nat} {fl : Int32} (h : mS F N w at_ st so va fl) (hf : ¬ fl = -9) : ∃ x, w = .inl x ∧ x ≤ N ∧ fl = nI x := by
  cases w with
  | inl x => exact ⟨x, rfl, h.2.2.2.2⟩
  | inr p => exact absurd h.2.2.2.2.2.1 hf

theorem mS_e {F : Nat → Nat} {N : Nat} {w w2 : Nat ⊕ Nat} {at_ st so va : Nat} {fl : Int32} (e : w = w2) (h : mS F N w at_ st so va fl) : mS F N w2 at_ st so va fl := e ▸ h
theorem mS_q {F : Nat → Nat} {N : Nat} {w : Nat ⊕ Nat} {qq : Bool} {q : Nat → Bool} (h : ∀ p, w = .inr p → qq = q p) : duS F N w (fun _ => qq) = duS F N w q := by
  cases w with
  | inl x => rfl
  | inr p => unfold duS; rw [Sum.elim_inr, Sum.elim_inr, h p rfl]
