def nOk (F : Nat → Nat) (N p lo hi : Nat) : Bool := decide (tKd F N p = 5 ∧ lo ≤ tVl F N p ∧ tVl F N p ≤ hi)
theorem nOk_5 {F : Nat → Nat} {N p lo hi : Nat} (h : nOk F N p lo hi = true) : tKd F N p = 5 ∧ lo ≤ tVl F N p ∧ tVl F N p ≤ hi := of_decide_eq_true h
theorem tVl_le {F : Nat → Nat} {N p : Nat} (h : ∀ x, x < N → F x ≤ 255) (hp : p ≤ N) (h5 : tKd F N p = 5) : tVl F N p ≤ 2300 := by
  unfold tKd at h5
  by_cases a : N ≤ tSt F N p
  · rw [if_pos a] at h5; cases h5
  · have h1 := h (tSt F N p) (by omega)
    have h3 := dEn_in (F := F) (N := N) (s := tSt F N p) (by omega)
    unfold tVl dVl
    by_cases d : isD (F (tSt F N p)) = true
    · rw [if_neg a, if_pos d] at h5
      unfold dKd at h5
      by_cases e : dEn F N (tSt F N p) - tSt F N p = 1
      · rw [if_pos e]; omega
      · rw [if_neg e]
        by_cases g : dEn F N (tSt F N p) - tSt F N p = 2
        · have h2 := h (tSt F N p + 1) (by omega)
          omega
        · rw [if_neg (by omega)] at h5; cases h5
    · rw [if_neg a, if_neg d] at h5
      by_cases l : isL (F (tSt F N p)) = true
      · rw [if_pos l] at h5
        unfold lKd at h5
        split at h5
        · cases h5
        · split at h5
          · cases h5
          · split at h5 <;> cases h5
      · rw [if_neg l] at h5
        split at h5 <;> cases h5
def tN (F : Nat → Nat) (N : Nat) : Nat → Nat → Nat
  | 0, p => p
  | i + 1, p => tNx F N (tN F N i p)
theorem tN_le {F : Nat → Nat} {N p : Nat} (h : p ≤ N) : ∀ i, tN F N i p ≤ N
  | 0 => h
  | i + 1 => (tNx_in (tN_le h i)).2.1
theorem tN_ge {F : Nat → Nat} {N p : Nat} (h : p ≤ N) : ∀ i, p ≤ tN F N i p
  | 0 => Nat.le_refl _
  | i + 1 => by
    have := tNx_in (F := F) (tN_le (F := F) h i)
    have h2 := tSt_in (F := F) (tN_le (F := F) h i)
    have h3 := tN_ge (F := F) h i
    show p ≤ tNx F N (tN F N i p)
    omega
def lst (i : Nat) : Nat := if i = 0 ∨ i = 2 then 1 else 0
def mst (i : Nat) : Nat := if i = 3 then 3 else 9
def enF (F : Nat → Nat) (N p : Nat) : Option Nat := if decide (tKd F N p = 6) = true then none else some (tSt F N p)
def ldF (F : Nat → Nat) (N st p nl : Nat) : Option Nat := if nl < 5 then (if nOk F N p 0 60 = true then enF F N (tNx F N p) else some (tSt F N p)) else some st
theorem ldF_lt {F : Nat → Nat} {N st p nl : Nat} (h : ldF F N st p nl = none) : nl < 5 := by
  unfold ldF at h
  split at h
  · assumption
  · cases h
def htF (F : Nat → Nat) (N st p : Nat) (hh : Bool) : Option Nat := if hh = true then some st else (if nOk F N p 0 9 = true then enF F N (tNx F N p) else some (tSt F N p))
def nmF (F : Nat → Nat) (N p : Nat) : Nat → Nat → Option Nat
  | 0, i => enF F N (tN F N i p)
  | m + 1, i => if nOk F N (tN F N i p) (lst i) (mst i) = true then nmF F N p m (i + 1) else some (tSt F N (tN F N i p))
theorem nmF_s {F : Nat → Nat} {N p i : Nat} (h : i < 4) (hq : nOk F N (tN F N i p) (lst i) (mst i) = true) : nmF F N p (4 - i) i = nmF F N p (4 - (i + 1)) (i + 1) := by
  rw [show 4 - i = (4 - (i + 1)) + 1 by omega, nmF, if_pos hq]
theorem nmF_f {F : Nat → Nat} {N p i : Nat} (h : i < 4) (hq : nOk F N (tN F N i p) (lst i) (mst i) = false) : nmF F N p (4 - i) i = some (tSt F N (tN F N i p)) := by
  rw [show 4 - i = (4 - (i + 1)) + 1 by omega, nmF, if_neg (by rw [hq]; decide)]
def tsF (F : Nat → Nat) (N st p nt : Nat) : Option Nat := if nt < 6 then nmF F N p 4 0 else some st
theorem tsF_lt {F : Nat → Nat} {N st p nt : Nat} (h : tsF F N st p nt = none) : nt < 6 := by
  unfold tsF at h
  split at h
  · assumption
  · cases h
def lwN (F : Nat → Nat) (N p : Nat) : Nat := ((((tVl F N (tN F N 0 p) - 1) * 10 + tVl F N (tN F N 1 p)) * 9 + tVl F N (tN F N 2 p)) - 1) * 4 + tVl F N (tN F N 3 p)
abbrev rpP (o : Option Nat) (r : Int32) (st : Nat) (Q : Prop) : Prop := r = bI o.isNone ∧ (∀ x, o = some x → st = x) ∧ (o = none → Q)
theorem rp_f {o : Option Nat} {x : Nat} {Q : Prop} (h : o = some x) : rpP o (nI 0) x Q := by
  subst h
  exact ⟨rfl, fun y e => Option.some.inj e, fun e => nomatch e⟩
theorem rp_e {F : Nat → Nat} {N p : Nat} {o : Option Nat} {Q : Prop} (h : o = enF F N p) (q : Q) : rpP o (bI (decide (tKd F N p = 6))) (tSt F N p) Q := by
  subst h
  unfold enF
  by_cases e : decide (tKd F N p = 6) = true
  · rw [if_pos e, e]; exact ⟨rfl, fun y z => (by cases z), fun _ => q⟩
  · rw [if_neg e, Bool.eq_false_iff.mpr e]; exact ⟨rfl, fun y z => Option.some.inj z, fun z => (by cases z)⟩
