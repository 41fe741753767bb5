def adF (g : Nat → Nat) (m a0 a1 a2 a3 a4 a5 : Nat) : Nat → Nat := va_up (va_up (va_up (va_up (va_up (va_up g m a0) (m + 1) a1) (m + 1 + 1) a2) (m + 1 + 1 + 1) a3) (m + 1 + 1 + 1 + 1) a4) (m + 1 + 1 + 1 + 1 + 1) a5
def adT (g : Nat → Nat) (m a0 a1 a2 a3 : Nat) : Nat → Nat := va_up (va_up (va_up (va_up g m a0) (m + 1) a1) (m + 1 + 1) a2) (m + 1 + 1 + 1) a3
abbrev lkUp (g : Nat → Nat) (t : Nat) : Nat → Nat := va_up g t (g t + 1)
def spWeighs (n : Nat → Nat) (f : Nat → Nat → Nat) (k : Nat → Nat) (a c : Int32) : Int32 × (Nat × (Nat → Nat) × (Nat → Nat)) := (ix a (n 5)).elim (-1, n 8, f 7, f 8) fun t => (ix c (n 4)).elim (-1, n 8, f 7, f 8) fun j => if n 8 < 12 then (nI (drk (f 5 t) (f 4 j) (f 7 t) (k 5)), n 8 + 1, lkUp (f 7) t, adF (f 8) (6 * n 8) t (f 7 t) (k 5) j (drk (f 5 t) (f 4 j) (f 7 t) (k 5)) 0) else (-3, n 8, f 7, f 8)
def spSays (n : Nat → Nat) (f : Nat → Nat → Nat) (k : Nat → Nat) (a c d : Int32) : Int32 × (Nat × (Nat → Nat)) := (ix a (n 5)).elim (-1, n 8, f 8) fun t => (ix c (n 4)).elim (-1, n 8, f 8) fun j => (ir d 0 99).elim (-1, n 8, f 8) fun cu => if n 8 < 12 then (nI (n 8 + 1), n 8 + 1, adF (f 8) (6 * n 8) t (f 7 t) (k 5) j cu 1) else (-3, n 8, f 8)
def spJug (n : Nat → Nat) (f : Nat → Nat → Nat) (k : Nat → Nat) (a a2 a3 a4 a5 : Int32) : Int32 × (Nat → Nat) := (ix a (n 5)).elim (-1, f 7) fun t => (ix a2 (n 5)).elim (-1, f 7) fun u => if t = u then (-1, f 7) else (ix a3 (n 4)).elim (-1, f 7) fun j => (ir a4 0 999).elim (-1, f 7) fun c => (ir a5 0 1).elim (-1, f 7) fun w =>
  let one := Nat.min (drk (f 5 t) (f 4 j) (f 7 t) (k 5)) c
  let two := Nat.min (drk (f 5 u) (f 4 j) (f 7 u) (k 5)) (c - one)
  (if w = 0 then nI (one + two) else nI two, lkUp (lkUp (f 7) t) u)
def smS (g : Nat → Nat) : Nat → Nat
  | 0 => 0
  | t + 1 => smS g t + g t
theorem smS_le {g : Nat → Nat} {q : Nat} : ∀ m, (∀ t, t < m → g t ≤ q) → smS g m ≤ m * q
  | 0, _ => by rw [smS]; omega
  | m + 1, h => by
    have h1 := smS_le m (fun t ht => h t (by omega))
    have h2 := h m (by omega)
    rw [smS, Nat.succ_mul]; omega
def zeF (g : Nat → Nat) (m : Nat) : Nat → Nat := cpN (fun _ => 0) g m
theorem zeF_s (g : Nat → Nat) (m : Nat) : va_up (zeF g m) m 0 = zeF g (m + 1) := cpN_s (fun _ => 0) g m
theorem zeF_0 (g : Nat → Nat) : zeF g 0 = g := cpN_0 _ g
theorem zeF_at {g : Nat → Nat} {m j : Nat} (h : m ≤ j) : zeF g m j = g j := by unfold zeF cpN; rw [if_neg (by omega)]
def spNight (n : Nat → Nat) (f : Nat → Nat → Nat) : Int32 × (Nat → Nat) := (nI (smS (f 7) (n 5)), zeF (f 7) (n 5))
def spHeat (k : Nat → Nat) (a : Int32) : Int32 × Nat := (ir a 0 9).elim (-1, k 5) fun h => (nI (k 5), h)
def spUndo (n : Nat → Nat) (f : Nat → Nat → Nat) : Int32 × (Nat × (Nat → Nat)) := if n 8 = 0 then (-2, n 8, f 7) else (nI (n 8 - 1), n 8 - 1, if f 8 (6 * (n 8 - 1) + 5) = 0 then va_up (f 7) (f 8 (6 * (n 8 - 1) + 0)) (f 7 (f 8 (6 * (n 8 - 1) + 0)) - 1) else f 7)
def spTold (n : Nat → Nat) (f : Nat → Nat → Nat) (a a2 a3 a4 : Int32) : Int32 × (Nat × (Nat → Nat)) := (irT a a2 a3).elim (-1, n 6, f 6) fun v => (ir a4 0 999).elim (-1, n 6, f 6) fun c => if n 6 < 8 then (nI (n 6 + 1), n 6 + 1, adT (f 6) (4 * n 6) v.1 v.2.1 v.2.2 c) else (-3, n 6, f 6)
def mkD (w : Nat) : Int64 := match w with | 0 => 1 | 1 => 11 | 2 => 101 | 3 => 1011 | 4 => 10101 | _ => 100001
def mkV (n : Nat → Nat) (f : Nat → Nat → Nat) (k : Nat → Nat) (w t : Nat) : Int32 := match w with
  | 0 => nI (lP (f 5 t) 0)
  | 1 => nI (lP (f 5 t) 0 + f 7 t)
  | 2 => nI (lP (f 5 t) 0) - nI (lP (f 5 t) 3)
  | 3 => nI ((lP (f 5 t) 0 + f 7 t) * 2)
  | 4 => nI (lP (f 5 t) 0) - nI (lP (f 5 t) 3) + nI t
  | _ => nI (lP (f 5 t) 0 + k 5)
def spMark (n : Nat → Nat) (f : Nat → Nat → Nat) (k : Nat → Nat) (tr : Int64) (a c : Int32) : Int32 × Int64 := (ix c (n 5)).elim (-1000000, tr) fun t => (ir a 0 5).elim (-1000000, tr) fun w => (mkV n f k w t, tr + mkD w)
def byX (v : Int64) (i : Nat) : Nat := ((v >>> ((nI (8 * i)).toInt64 &&& 63)) &&& 255).toBitVec.toNat
theorem byX_lt (v : Int64) (i : Nat) : byX v i < 256 := by
  unfold byX
  rw [Int64.toBitVec_and, BitVec.toNat_and]
  exact Nat.lt_of_le_of_lt Nat.and_le_right (by decide)
theorem byX_i (v : Int64) (i : Nat) : ((v >>> ((nI (8 * i)).toInt64 &&& 63)) &&& 255).toInt32 = nI (byX v i) := by
  have h := byX_lt v i
  unfold byX at *
  generalize ((v >>> ((nI (8 * i)).toInt64 &&& 63)) &&& 255) = x at *
  obtain ⟨m, hm, rfl⟩ : ∃ m : Nat, m < 256 ∧ x = lN m := ⟨x.toBitVec.toNat, h, by
    apply Int64.toBitVec_inj.mp
    show x.toBitVec = BitVec.ofNat 64 x.toBitVec.toNat
    rw [BitVec.ofNat_toNat, BitVec.setWidth_eq]⟩
  rw [lN_i]
  congr 1
  show m = (BitVec.ofNat 64 m).toNat
  rw [BitVec.toNat_ofNat]; omega
def idI (m : Nat) : Int32 := nI m - nI 1
theorem idI_0 : idI 0 = -1 := by decide
theorem idI_s (m : Nat) : idI (m + 1) = nI m := nI_pred m
theorem idI_dec (m : Nat) : nI m + Int32.ofInt (-1) = idI m := by
  unfold idI
  rw [Int32.sub_eq_add_neg]; rfl
def tyC (v : Int64) (nn : Nat) (g : Nat → Nat) (n0 m : Nat) : Nat → Nat := fun i => if n0 ≤ i ∧ i < n0 + (nn - m) then byX v (nn - 1 - (i - n0)) else g i
theorem tyC_0 (v : Int64) (nn : Nat) (g : Nat → Nat) (n0 : Nat) : tyC v nn g n0 nn = g := by
  funext i; unfold tyC; rw [if_neg (by omega)]
theorem tyC_s (v : Int64) (nn : Nat) (g : Nat → Nat) (n0 : Nat) {m : Nat} (h : m + 1 ≤ nn) : va_up (tyC v nn g n0 (m + 1)) (n0 + (nn - (m + 1))) (byX v m) = tyC v nn g n0 m := by
  funext i
  unfold tyC va_up
  by_cases e : i = n0 + (nn - (m + 1))
  · subst e
    rw [if_pos rfl, if_pos (by omega), show nn - 1 - (n0 + (nn - (m + 1)) - n0) = m by omega]
  · rw [if_neg e]
    show (if n0 ≤ i ∧ i < n0 + (nn - (m + 1)) then byX v (nn - 1 - (i - n0)) else g i) = _
    by_cases h1 : n0 ≤ i ∧ i < n0 + (nn - (m + 1))
    · rw [if_pos h1, if_pos (by omega)]
    · rw [if_neg h1, if_neg (by omega)]
def spType (n : Nat → Nat) (f : Nat → Nat → Nat) (v : Int64) (a : Int32) : Int32 × (Nat × (Nat → Nat)) := (ir a 1 8).elim (-1, n 0, f 0) fun nn => if n 0 + nn ≤ 200 then (nI (n 0 + nn), n 0 + nn, tyC v nn (f 0) (n 0) 0) else (-3, n 0, f 0)

theorem max1_nI {a : Nat} (h : a < 2 ^ 30) : (if nI a - nI 1 < nI 0 then nI 0 else nI a - nI 1) = nI (a - 1) := max0_nI h (by decide)

theorem tr_add (a b c d : Int64) (h : b + c = d) : a + b + c = a + d := by rw [Int64.add_assoc, h]
