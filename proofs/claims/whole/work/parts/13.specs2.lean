def ix (x : Int32) (n : Nat) : Option Nat := if hasB x n = true then some x.toNatClampNeg else none
theorem ix_no {x : Int32} {n : Nat} (h : hasB x n = false) : ix x n = none := by unfold ix; rw [h]; rfl
theorem ix_yes {j n : Nat} (h : j < n) (hn : n < 2 ^ 31) : ix (nI j) n = some j := by
  unfold ix
  rw [if_pos (by rw [hasB_nI (by omega) hn]; exact decide_eq_true h), nI_clamp (by omega)]
def ir (x : Int32) (lo hi : Nat) : Option Nat := if inR x (nI lo) (nI hi) = true then some x.toNatClampNeg else none
theorem ir_no {x : Int32} {lo hi : Nat} (h : inR x (nI lo) (nI hi) = false) : ir x lo hi = none := by unfold ir; rw [h]; rfl
theorem ir_yes {lo hi j : Nat} (h1 : lo ≤ j) (h2 : j ≤ hi) (hh : hi < 2 ^ 31) : ir (nI j) lo hi = some j := by
  unfold ir
  rw [if_pos (by rw [inR_nI (by omega) hh (by omega)]; exact decide_eq_true ⟨h1, h2⟩), nI_clamp (by omega)]
theorem inR_out {x : Int32} {lo hi : Nat} (hl : lo < 2 ^ 31) (hh : hi < 2 ^ 31) (h : inR x (nI lo) (nI hi) = false) : x.toInt < (lo : Int) ∨ (hi : Int) < x.toInt := by
  have h1 := of_decide_eq_false h
  rw [Int32.le_iff_toInt_le, Int32.le_iff_toInt_le, nI_toInt hl, nI_toInt hh] at h1
  omega
def irT (x y z : Int32) : Option (Nat × Nat × Nat) := if (inR x (nI 0) (nI 60) && inR y (nI 0) (nI 9) && inR z (nI 0) (nI 9)) = true then some (x.toNatClampNeg, y.toNatClampNeg, z.toNatClampNeg) else none
theorem irT_no {x y z : Int32} (h : (inR x (nI 0) (nI 60) && inR y (nI 0) (nI 9) && inR z (nI 0) (nI 9)) = false) : irT x y z = none := by unfold irT; rw [h]; rfl
theorem irT_ok {x y z : Int32} (h : (inR x (nI 0) (nI 60) && inR y (nI 0) (nI 9) && inR z (nI 0) (nI 9)) = true) : ∃ a b c : Nat, a ≤ 60 ∧ b ≤ 9 ∧ c ≤ 9 ∧ x = nI a ∧ y = nI b ∧ z = nI c ∧ irT x y z = some (a, b, c) := by
  have h2 := h
  simp only [Bool.and_eq_true] at h2
  obtain ⟨⟨h3, h4⟩, h5⟩ := h2
  obtain ⟨a, -, ha, rfl⟩ := inR_N (by decide) (by decide) h3
  obtain ⟨b, -, hb, rfl⟩ := inR_N (by decide) (by decide) h4
  obtain ⟨c, -, hc, rfl⟩ := inR_N (by decide) (by decide) h5
  refine ⟨a, b, c, ha, hb, hc, rfl, rfl, rfl, ?_⟩
  unfold irT
  rw [if_pos h, nI_clamp (by omega), nI_clamp (by omega), nI_clamp (by omega)]
def spLoad (n : Nat → Nat) (f : Nat → Nat → Nat) (a : Int32) : Int32 := (ix a (n 4)).elim (-1) fun j => nI (f 4 j)
def spTaster (n : Nat → Nat) (f : Nat → Nat → Nat) (a c : Int32) : Int32 := (ix a (n 5)).elim (-1) fun t => (ir c 0 4).elim (-1) fun w => nI (if w = 4 then f 7 t else lP (f 5 t) w)
def spCups (n : Nat → Nat) (f : Nat → Nat → Nat) (k : Nat → Nat) (a c d : Int32) : Int32 := (ix a (n 5)).elim (-1) fun t => (ir c 0 60).elim (-1) fun w => (ir d 0 99).elim (-1) fun j => nI (drk (f 5 t) w j (k 5))
def spKnown (n : Nat → Nat) (f : Nat → Nat → Nat) (a c : Int32) : Int32 := (ix a (n 8)).elim (-1) fun i => (ir c 0 5).elim (-1) fun w => nI (f 8 (6 * i + w))
def spCanBe (n : Nat → Nat) (f : Nat → Nat → Nat) (a c : Int32) : Int32 := (ix a (n 4)).elim (-1) fun j => (ir c 0 2).elim (-1) fun w => if w = 0 then nI (hiP (canW f (n 8) j) - loP (canW f (n 8) j) + 1) else if w = 1 then nI (loP (canW f (n 8) j)) else nI (hiP (canW f (n 8) j))
def spHeav (n : Nat → Nat) (f : Nat → Nat → Nat) (a c : Int32) : Int32 := (ix a (n 4)).elim (-1) fun j => (ix c (n 4)).elim (-1) fun i => if j = i then -1 else if hiP (canW f (n 8) i) < loP (canW f (n 8) j) then 1 else if hiP (canW f (n 8) j) < loP (canW f (n 8) i) then -2 else 0
def optI (o : Option (Nat × Nat)) (a : Nat) : Int32 := o.elim (-9) fun q => if a = 0 then nI q.1 else nI q.2
def nxS (g : Nat → Nat) : Nat → Nat → Option (Nat × Nat) → Option (Nat × Nat)
  | 0, _, o => o
  | fuel + 1, t, o => nxS g fuel (t + 1) (match o with | none => some (t, g t) | some q => if g t < q.2 then some (t, g t) else some q)
def lw (f : Nat → Nat → Nat) (k : Nat → Nat) (lo hi t : Nat) : Nat := lwS (fun w => drk (f 5 t) w (f 7 t) (k 5)) hi 61 lo 0
def spNext (n : Nat → Nat) (f : Nat → Nat → Nat) (k : Nat → Nat) (a c : Int32) : Int32 := (ix a (n 4)).elim (-1) fun j => (ir c 0 1).elim (-1) fun w => optI (nxS (lw f k (loP (canW f (n 8) j)) (hiP (canW f (n 8) j))) (n 5) 0 none) w
theorem upS_min (p : Nat → Bool) {a : Nat} (ha : p a = true) : ∀ fuel w, w ≤ a → upS p fuel w ≤ a
  | 0, w, h => h
  | fuel + 1, w, h => by
    rw [upS]
    split
    · exact h
    · rename_i hw
      refine upS_min p ha fuel (w + 1) ?_
      rcases Nat.lt_or_ge w a with q | q
      · omega
      · have : w = a := by omega
        subst this
        exact absurd ha hw
theorem dnS_max (p : Nat → Bool) {a : Nat} (ha : p a = true) : ∀ fuel w, a ≤ w → a ≤ dnS p fuel w
  | 0, w, h => h
  | fuel + 1, w, h => by
    rw [dnS]
    split
    · exact h
    · rename_i hw
      refine dnS_max p ha fuel (w - 1) ?_
      rcases Nat.lt_or_ge a w with q | q
      · omega
      · have : w = a := by omega
        subst this
        exact absurd ha hw
theorem canW_true {n : Nat → Nat} {f : Nat → Nat → Nat} {k : Nat → Nat} {q : Nat} (hI : XI n f k q) (j : Nat) : canW f (n 8) j (f 4 j) = true := by
  obtain ⟨i4, i5, i6, iq, iw, il, i7, i8, ih9, ik, iF⟩ := hI
  refine decide_eq_true (fun i hi h1 h2 => ?_)
  have e := (iF i hi).2.2.2.2.2.2 h2
  rw [h1] at e
  exact e.symm
theorem lo_hi {n : Nat → Nat} {f : Nat → Nat → Nat} {k : Nat → Nat} {q : Nat} (hI : XI n f k q) {j : Nat} (hj : j < n 4) : loP (canW f (n 8) j) ≤ f 4 j ∧ f 4 j ≤ hiP (canW f (n 8) j) :=
  ⟨upS_min _ (canW_true hI j) 60 0 (Nat.zero_le _), dnS_max _ (canW_true hI j) 60 60 (hI.2.2.2.2.1 j hj)⟩
theorem lwS_le (c : Nat → Nat) (hi : Nat) (h60 : hi ≤ 60) : ∀ fuel fr most, most ≤ 61 → lwS c hi fuel fr most ≤ 61
  | 0, _, _, h => h
  | fuel + 1, fr, most, h => by
    rw [lwS]
    split
    · have := eoS_in c (c fr) (hi - fr) fr
      exact lwS_le c hi h60 fuel _ _ (Nat.max_le.mpr ⟨h, by omega⟩)
    · exact h
def tolP (n : Nat → Nat) (f : Nat → Nat → Nat) (law : Nat) : Bool := decide (∀ i, i < n 6 → drk law (f 6 (4 * i)) (f 6 (4 * i + 1)) (f 6 (4 * i + 2)) = f 6 (4 * i + 3))
abbrev TI (n : Nat → Nat) (f : Nat → Nat → Nat) : Prop := n 6 ≤ 8 ∧ ∀ i, i < n 6 → f 6 (4 * i) ≤ 60 ∧ f 6 (4 * i + 1) ≤ 9 ∧ f 6 (4 * i + 2) ≤ 9 ∧ f 6 (4 * i + 3) ≤ 999
def cntS (p : Nat → Bool) : Nat → Nat → Nat → Nat
  | 0, _, acc => acc
  | fuel + 1, law, acc => cntS p fuel (law + 1) (if p law = true then acc + 1 else acc)
def firS (p : Nat → Bool) : Nat → Nat → Option Nat
  | 0, _ => none
  | fuel + 1, law => if p law = true then some law else firS p fuel (law + 1)
def spLearnt (n : Nat → Nat) (f : Nat → Nat → Nat) (c : Int32) : Int32 := (ir c 0 4).elim (-1) fun w => if w = 0 then nI (cntS (tolP n f) 3240 0 0) else (firS (tolP n f) 3240 0).elim (-9) fun law => nI (lP law (w - 1))
def mayS (p : Nat → Bool) (d : Nat → Nat) : Nat → Nat → Option (Nat × Nat) → Option (Nat × Nat)
  | 0, _, o => o
  | fuel + 1, law, o => mayS p d fuel (law + 1) (if p law = true then some (match o with | none => (d law, d law) | some q => (Nat.min q.1 (d law), Nat.max q.2 (d law))) else o)
def spMay (n : Nat → Nat) (f : Nat → Nat → Nat) (x y z c : Int32) : Int32 := (irT x y z).elim (-1) fun v => (ir c 0 1).elim (-1) fun w => optI (mayS (tolP n f) (fun law => drk law v.1 v.2.1 v.2.2) 3240 0 none) w
def brS (f : Nat → Nat → Nat) : Nat → Nat → Int32 → Int32
  | 0, _, b => b
  | fuel + 1, i, b => brS f fuel (i + 1) (if f 8 (6 * i + 5) = 1 ∧ drk (f 5 (f 8 (6 * i + 0))) (f 4 (f 8 (6 * i + 3))) (f 8 (6 * i + 1)) (f 8 (6 * i + 2)) ≠ f 8 (6 * i + 4) then b ||| ((nI 1) <<< (nI (f 8 (6 * i + 0)) &&& 31)) else b)
def spBribed (n : Nat → Nat) (f : Nat → Nat → Nat) : Int32 := brS f (n 8) 0 0
def meS (c : Nat → Nat) (cu y : Nat) : Nat → Nat → Option (Nat × Nat) → Option (Nat × Nat)
  | 0, _, o => o
  | fuel + 1, w, o => meS c cu y fuel (w + 1) (if c w ≤ cu + y ∧ cu ≤ c w + y then some (match o with | none => (w, w) | some q => (q.1, w)) else o)
def spMem (n : Nat → Nat) (f : Nat → Nat → Nat) (k : Nat → Nat) (a c d x : Int32) : Int32 := (ix a (n 5)).elim (-1) fun t => (ir c 0 999).elim (-1) fun cu => (ir d 0 20).elim (-1) fun y => (ir x 0 1).elim (-1) fun w => optI (meS (fun w => drk (f 5 t) w 0 (k 5)) cu y 61 0 none) w
def spCount (n : Nat → Nat) (k : Nat → Nat) (c : Int32) : Int32 := (ir c 0 5).elim (-1) fun w => nI (if w = 0 then n 4 else if w = 1 then n 5 else if w = 2 then k 5 else if w = 3 then n 8 else if w = 4 then n 6 else n 0)
def pd (plan t : Nat) : Nat := plan / 2 ^ (2 * t) % 4
theorem pd_sh {plan t : Nat} (hp : plan < 2 ^ 31) (ht : t < 6) : (nI plan >>> (nI (2 * t) &&& 31)) &&& nI 3 = nI (pd plan t) := by
  have hs : ((nI (2 * t) &&& 31).toBitVec.smod 32).toNat = 2 * t := by
    rcases (show t = 0 ∨ t = 1 ∨ t = 2 ∨ t = 3 ∨ t = 4 ∨ t = 5 by omega) with rfl | rfl | rfl | rfl | rfl | rfl <;> decide
  rw [pk_shrN hp _ (2 * t) hs, pk_andN (k := 2) (by have := Nat.div_le_self plan (2 ^ (2 * t)); omega) (by decide)]
  rfl
theorem pd_with {plan t : Nat} (ht : t < 6) : nI plan + (nI 1 <<< (nI (2 * t) &&& 31)) = nI (plan + 2 ^ (2 * t)) := by
  have hs : ((nI (2 * t) &&& 31).toBitVec.smod 32).toNat = 2 * t := by
    rcases (show t = 0 ∨ t = 1 ∨ t = 2 ∨ t = 3 ∨ t = 4 ∨ t = 5 by omega) with rfl | rfl | rfl | rfl | rfl | rfl <;> decide
  have hb : 1 * 2 ^ (2 * t) < 2 ^ 32 := by
    rcases (show t = 0 ∨ t = 1 ∨ t = 2 ∨ t = 3 ∨ t = 4 ∨ t = 5 by omega) with rfl | rfl | rfl | rfl | rfl | rfl <;> decide
  rw [pk_shlN _ (2 * t) hs hb, nI_add, Nat.one_mul]
theorem pd_lt {t : Nat} (ht : t < 6) : 2 ^ (2 * t) ≤ 1024 := by
  rcases (show t = 0 ∨ t = 1 ∨ t = 2 ∨ t = 3 ∨ t = 4 ∨ t = 5 by omega) with rfl | rfl | rfl | rfl | rfl | rfl <;> decide
theorem pd_add {plan t u : Nat} (ht : t < 6) (hu : u < 6) (h : pd plan t ≤ 2) : pd (plan + 2 ^ (2 * t)) u = pd plan u + if u = t then 1 else 0 := by
  unfold pd at *
  rcases (show t = 0 ∨ t = 1 ∨ t = 2 ∨ t = 3 ∨ t = 4 ∨ t = 5 by omega) with rfl | rfl | rfl | rfl | rfl | rfl <;>
  rcases (show u = 0 ∨ u = 1 ∨ u = 2 ∨ u = 3 ∨ u = 4 ∨ u = 5 by omega) with rfl | rfl | rfl | rfl | rfl | rfl <;>
  simp at h ⊢ <;> omega
def spA (c : Nat → Nat) (hi : Nat) (P : Nat → Nat → Bool) : Nat → Nat → Bool
  | 0, _ => true
  | fuel + 1, fr => if fr ≤ hi then P fr (eoS c (c fr) (hi - fr) fr) && spA c hi P fuel (eoS c (c fr) (hi - fr) fr + 1) else true
def anyB (n : Nat) (p : Nat → Bool) : Bool := decide (∃ t, t < n ∧ p t = true)
def enS (nT : Nat) (c : Nat → Nat → Nat → Nat) (m : Nat) : Nat → (Nat → Nat) → Nat → Nat → Bool
  | 0, _, lo, hi => decide (hi - lo + 1 ≤ m)
  | w + 1, lk, lo, hi => decide (hi - lo + 1 ≤ m) || anyB nT (fun t => spA (c t (lk t)) hi (fun a e => enS nT c m w (va_up lk t (lk t + 1)) a e) 61 lo)
def cS (f : Nat → Nat → Nat) (k : Nat → Nat) (t j w : Nat) : Nat := drk (f 5 t) w j (k 5)
def spEnough (n : Nat → Nat) (f : Nat → Nat → Nat) (k : Nat → Nat) (a c : Int32) : Int32 := (ix a (n 4)).elim (-1) fun j => (ir c 1 61).elim (-1) fun m =>
  let E := fun w => enS (n 5) (cS f k) m w (f 7) (loP (canW f (n 8) j)) (hiP (canW f (n 8) j))
  if E 0 = true then 0 else if E 1 = true then 1 else if E 2 = true then 2 else if E 3 = true then 3 else -9

theorem nI_ne9 {a : Nat} (h : a < 2 ^ 31) : ¬ nI a = -9 := by
  intro e
  have h2 : (nI a).toInt = -9 := by rw [e]; rfl
  rw [nI_toInt h] at h2; omega
abbrev optB (o : Option (Nat × Nat)) (a b : Nat) : Prop := match o with | none => True | some q => q.1 ≤ a ∧ q.2 ≤ b
