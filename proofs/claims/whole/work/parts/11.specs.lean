abbrev okF (nT nW : Nat) (law wt : Nat → Nat) (q : Nat) (fc : Nat → Nat) (i : Nat) : Prop := fc (6 * i + 0) < nT ∧ fc (6 * i + 1) ≤ q ∧ fc (6 * i + 2) ≤ 9 ∧ fc (6 * i + 3) < nW ∧ fc (6 * i + 4) ≤ 999 ∧ fc (6 * i + 5) ≤ 1 ∧ (fc (6 * i + 5) = 0 → fc (6 * i + 4) = drk (law (fc (6 * i + 0))) (wt (fc (6 * i + 3))) (fc (6 * i + 1)) (fc (6 * i + 2)))
abbrev okN (nT nW : Nat) (law wt : Nat → Nat) (q nl : Nat) (lk : Nat → Nat) (nf : Nat) (fc : Nat → Nat) (h : Nat) : Prop := nl = nT ∧ nf ≤ 12 ∧ h ≤ 9 ∧ (∀ t, t < nT → lk t ≤ q) ∧ ∀ i, i < nf → okF nT nW law wt q fc i
abbrev XI (n : Nat → Nat) (f : Nat → Nat → Nat) (k : Nat → Nat) (q : Nat) : Prop := n 4 ≤ 5 ∧ n 5 ≤ 6 ∧ n 6 ≤ 8 ∧ q ≤ 4000 ∧ (∀ l, l < n 4 → f 4 l ≤ 60) ∧ (∀ t, t < n 5 → f 5 t < 3240) ∧ okN (n 5) (n 4) (f 5) (f 4) q (n 7) (f 7) (n 8) (f 8) (k 5)
abbrev cwP (f : Nat → Nat → Nat) (l w i : Nat) : Prop := f 8 (6 * i + 3) = l → f 8 (6 * i + 5) = 0 → drk (f 5 (f 8 (6 * i + 0))) w (f 8 (6 * i + 1)) (f 8 (6 * i + 2)) = f 8 (6 * i + 4)
def canW (f : Nat → Nat → Nat) (m l w : Nat) : Bool := decide (∀ i, i < m → cwP f l w i)
def upS (p : Nat → Bool) : Nat → Nat → Nat
  | 0, w => w
  | fuel + 1, w => if p w then w else upS p fuel (w + 1)
theorem upS_t {p : Nat → Bool} {w : Nat} (h : p w = true) : ∀ fuel, upS p fuel w = w
  | 0 => rfl
  | fuel + 1 => by rw [upS, h]; rfl
theorem upS_f {p : Nat → Bool} {w : Nat} (h : p w = false) (fuel : Nat) : upS p (fuel + 1) w = upS p fuel (w + 1) := by rw [upS, h]; rfl
def dnS (p : Nat → Bool) : Nat → Nat → Nat
  | 0, w => w
  | fuel + 1, w => if p w then w else dnS p fuel (w - 1)
theorem dnS_t {p : Nat → Bool} {w : Nat} (h : p w = true) : ∀ fuel, dnS p fuel w = w
  | 0 => rfl
  | fuel + 1 => by rw [dnS, h]; rfl
theorem dnS_f {p : Nat → Bool} {w : Nat} (h : p w = false) (fuel : Nat) : dnS p (fuel + 1) w = dnS p fuel (w - 1) := by rw [dnS, h]; rfl
def eoS (c : Nat → Nat) (d : Nat) : Nat → Nat → Nat
  | 0, w => w
  | fuel + 1, w => if c (w + 1) = d then eoS c d fuel (w + 1) else w
theorem eoS_t {c : Nat → Nat} {d w : Nat} (h : c (w + 1) = d) (fuel : Nat) : eoS c d (fuel + 1) w = eoS c d fuel (w + 1) := by rw [eoS, if_pos h]
theorem eoS_f {c : Nat → Nat} {d w : Nat} (h : c (w + 1) ≠ d) (fuel : Nat) : eoS c d fuel w = w := by
  cases fuel with
  | zero => rfl
  | succ n => rw [eoS, if_neg h]
theorem eoS_in (c : Nat → Nat) (d : Nat) : ∀ fuel w, w ≤ eoS c d fuel w ∧ eoS c d fuel w ≤ w + fuel
  | 0, w => ⟨Nat.le_refl _, Nat.le_refl _⟩
  | fuel + 1, w => by
    have h := eoS_in c d fuel (w + 1)
    rw [eoS]
    split
    · omega
    · omega
def lwS (c : Nat → Nat) (hi : Nat) : Nat → Nat → Nat → Nat
  | 0, _, most => most
  | fuel + 1, fr, most => if fr ≤ hi then lwS c hi fuel (eoS c (c fr) (hi - fr) fr + 1) (Nat.max most (eoS c (c fr) (hi - fr) fr - fr + 1)) else most
def loP (p : Nat → Bool) : Nat := upS p 60 0
def hiP (p : Nat → Bool) : Nat := dnS p 60 60
theorem upS_le (p : Nat → Bool) : ∀ fuel w, upS p fuel w ≤ w + fuel
  | 0, w => Nat.le_refl _
  | fuel + 1, w => by
    have h := upS_le p fuel (w + 1)
    rw [upS]; split <;> omega
theorem dnS_le (p : Nat → Bool) : ∀ fuel w, dnS p fuel w ≤ w
  | 0, w => Nat.le_refl _
  | fuel + 1, w => by
    have h := dnS_le p fuel (w - 1)
    rw [dnS]; split <;> omega
theorem loP_le (p : Nat → Bool) : loP p ≤ 60 := by have := upS_le p 60 0; unfold loP; omega
theorem hiP_le (p : Nat → Bool) : hiP p ≤ 60 := dnS_le p 60 60

theorem drk_lt {law w n h : Nat} (hl : law < 3240) (hw : w ≤ 60) (hn : n ≤ 4096) (hh : h ≤ 9) : drk law w n h ≤ 558 := by
  have h0 := lP0 hl
  have h1 := lP1 law
  have hA : lP law 0 * w ≤ 9 * 60 := Nat.mul_le_mul h0.2 hw
  have h5 : drk law w n h ≤ lP law 0 * w - lP law 3 * n + lP law 1 + h := Nat.div_le_self _ _
  omega
