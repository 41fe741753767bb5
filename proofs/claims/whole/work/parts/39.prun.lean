def pRun (F : Nat → Nat) (N : Nat) : Nat → Nat → Nat → Nat → Nat → Nat → Bool → (Nat → Nat) → (Nat → Nat) → Nat ⊕ (Nat × Nat × Nat × Nat × (Nat → Nat) × (Nat → Nat))
  | 0, _, _, _, _, _, _, _, _ => .inl 0
  | m + 1, p, nl, nt, he, it, hh, wl, lw =>
    if tKd F N p = 0 then .inr (nl, nt, he, it, wl, lw)
    else if tKd F N p = 2 then (ldF F N (tSt F N p) (tNx F N p) nl).elim (pRun F N m (tNx F N (tNx F N (tNx F N p))) (nl + 1) nt he (it + 1) hh (va_up wl nl (tVl F N (tNx F N p))) lw) Sum.inl
    else if tKd F N p = 3 then (tsF F N (tSt F N p) (tNx F N p) nt).elim (pRun F N m (tNx F N (tN F N 4 (tNx F N p))) nl (nt + 1) he (it + 1) hh wl (va_up lw nt (lwN F N (tNx F N p)))) Sum.inl
    else if tKd F N p = 4 then (htF F N (tSt F N p) (tNx F N p) hh).elim (pRun F N m (tNx F N (tNx F N (tNx F N p))) nl nt (tVl F N (tNx F N p)) (it + 1) true wl lw) Sum.inl
    else .inl (tSt F N p)
theorem pR_0 {F : Nat → Nat} {N i p nl nt he it : Nat} {hh : Bool} {wl lw : Nat → Nat} (h : i ≤ 200) (hk : tKd F N p = 0) : pRun F N (201 - i) p nl nt he it hh wl lw = .inr (nl, nt, he, it, wl, lw) := by
  rw [show 201 - i = (200 - i) + 1 by omega, pRun, if_pos hk]
theorem pR_2 {F : Nat → Nat} {N i p nl nt he it : Nat} {hh : Bool} {wl lw : Nat → Nat} (h : i ≤ 200) (hk : tKd F N p = 2) : pRun F N (201 - i) p nl nt he it hh wl lw = (ldF F N (tSt F N p) (tNx F N p) nl).elim (pRun F N (201 - (i + 1)) (tNx F N (tNx F N (tNx F N p))) (nl + 1) nt he (it + 1) hh (va_up wl nl (tVl F N (tNx F N p))) lw) Sum.inl := by
  rw [show 201 - i = (200 - i) + 1 by omega, show 201 - (i + 1) = 200 - i by omega, pRun, if_neg (by omega), if_pos hk]
theorem pR_3 {F : Nat → Nat} {N i p nl nt he it : Nat} {hh : Bool} {wl lw : Nat → Nat} (h : i ≤ 200) (hk : tKd F N p = 3) : pRun F N (201 - i) p nl nt he it hh wl lw = (tsF F N (tSt F N p) (tNx F N p) nt).elim (pRun F N (201 - (i + 1)) (tNx F N (tN F N 4 (tNx F N p))) nl (nt + 1) he (it + 1) hh wl (va_up lw nt (lwN F N (tNx F N p)))) Sum.inl := by
  rw [show 201 - i = (200 - i) + 1 by omega, show 201 - (i + 1) = 200 - i by omega, pRun, if_neg (by omega), if_neg (by omega), if_pos hk]
theorem pR_4 {F : Nat → Nat} {N i p nl nt he it : Nat} {hh : Bool} {wl lw : Nat → Nat} (h : i ≤ 200) (hk : tKd F N p = 4) : pRun F N (201 - i) p nl nt he it hh wl lw = (htF F N (tSt F N p) (tNx F N p) hh).elim (pRun F N (201 - (i + 1)) (tNx F N (tNx F N (tNx F N p))) nl nt (tVl F N (tNx F N p)) (it + 1) true wl lw) Sum.inl := by
  rw [show 201 - i = (200 - i) + 1 by omega, show 201 - (i + 1) = 200 - i by omega, pRun, if_neg (by omega), if_neg (by omega), if_neg (by omega), if_pos hk]
theorem pR_w {F : Nat → Nat} {N i p nl nt he it : Nat} {hh : Bool} {wl lw : Nat → Nat} (h : i ≤ 200) (hk : tKd F N p ≠ 0 ∧ tKd F N p ≠ 2 ∧ tKd F N p ≠ 3 ∧ tKd F N p ≠ 4) : pRun F N (201 - i) p nl nt he it hh wl lw = .inl (tSt F N p) := by
  rw [show 201 - i = (200 - i) + 1 by omega, pRun, if_neg hk.1, if_neg hk.2.1, if_neg hk.2.2.1, if_neg hk.2.2.2]
abbrev prP (o : Nat ⊕ (Nat × Nat × Nat × Nat × (Nat → Nat) × (Nat → Nat))) (r : Int32) (st : Nat) (R' : Nat × Nat × Nat × Nat × (Nat → Nat) × (Nat → Nat)) : Prop := o.elim (fun x => r = nI 0 ∧ st = x) (fun q => r = nI 1 ∧ R' = q)
theorem pr_f {o : Nat ⊕ (Nat × Nat × Nat × Nat × (Nat → Nat) × (Nat → Nat))} {r : Int32} {st x : Nat} {R' : Nat × Nat × Nat × Nat × (Nat → Nat) × (Nat → Nat)} (h : o = .inl x) (hr : r = nI 0) (hs : st = x) : prP o r st R' := by
  subst h; exact ⟨hr, hs⟩
theorem pr_o {o : Nat ⊕ (Nat × Nat × Nat × Nat × (Nat → Nat) × (Nat → Nat))} {e : Option Nat} {g : Nat ⊕ (Nat × Nat × Nat × Nat × (Nat → Nat) × (Nat → Nat))} {st : Nat} {R' : Nat × Nat × Nat × Nat × (Nat → Nat) × (Nat → Nat)} (h : o = e.elim g Sum.inl) (hn : e.isNone = false) (hf : ∀ x, e = some x → st = x) : prP o (nI 0) st R' := by
  subst h
  cases e with
  | none => cases hn
  | some x => exact ⟨rfl, hf x rfl⟩
theorem pr_n {o g : Nat ⊕ (Nat × Nat × Nat × Nat × (Nat → Nat) × (Nat → Nat))} {e : Option Nat} (h : o = e.elim g Sum.inl) (hn : e = none) : o = g := by
  subst hn; exact h
theorem isN {e : Option Nat} (h : e.isNone = true) : e = none := by
  cases e with
  | none => rfl
  | some _ => cases h
theorem tok_lt {F : Nat → Nat} {N p : Nat} (h : p ≤ N) (hk : tKd F N p ≠ 0) : p < tNx F N p ∧ tNx F N p ≤ N := by
  have h1 := tNx_in (F := F) h
  have h2 := tSt_in (F := F) h
  have h3 := h1.2.2 hk
  omega
theorem tok_le {F : Nat → Nat} {N p : Nat} (h : p ≤ N) : p ≤ tNx F N p ∧ tNx F N p ≤ N := by
  have h1 := tNx_in (F := F) h
  have h2 := tSt_in (F := F) h
  omega
def gN (n : Nat → Nat) (a c d : Nat) : Nat → Nat := va_up (va_up (va_up n 1 a) 2 c) 3 d
def gF (f : Nat → Nat → Nat) (a c d : Nat → Nat) : Nat → Nat → Nat := va_up (va_up (va_up f 1 a) 2 c) 3 d
def gK (k : Nat → Nat) (a0 a1 a2 a3 a4 : Nat) : Nat → Nat := va_up (va_up (va_up (va_up (va_up k 0 a0) 1 a1) 2 a2) 3 a3) 4 a4
