/-! rows of bits: a set of weights -/
def sh1 (w : Nat) : Int64 := (1 : Int64) <<< ((nI w).toInt64 &&& 63)
def bt6 (S : Int64) (j : Nat) : Bool := S.toBitVec.getLsbD j
theorem shk : ∀ w, w < 64 → (((nI w).toInt64 &&& 63).toBitVec.smod 64).toNat = w := by decide +kernel
theorem bt6_ext {A B : Int64} (h : ∀ j, j < 64 → bt6 A j = bt6 B j) : A = B := by
  apply Int64.toBitVec_inj.mp
  apply BitVec.eq_of_getLsbD_eq
  intro i hi
  exact h i hi
theorem bt6_sh1 {w j : Nat} (hw : w < 64) (hj : j < 64) : bt6 (sh1 w) j = decide (j = w) := by
  unfold bt6 sh1
  rw [Int64.toBitVec_shiftLeft]
  show ((1#64) <<< (((nI w).toInt64 &&& 63).toBitVec.smod 64)).getLsbD j = _
  rw [BitVec.shiftLeft_eq', shk w hw, BitVec.getLsbD_shiftLeft]
  by_cases e : j = w
  · subst e; simp [hj]
  · by_cases h2 : j < w
    · simp [h2, e]
    · have : j - w ≠ 0 := by omega
      simp [e, h2, this]
theorem bt6_or (A B : Int64) (j : Nat) : bt6 (A ||| B) j = (bt6 A j || bt6 B j) := by
  unfold bt6; rw [Int64.toBitVec_or, BitVec.getLsbD_or]
theorem bt6_0 (j : Nat) : bt6 0 j = false := by
  unfold bt6; exact BitVec.getLsbD_zero
theorem bt6_not {A B : Int64} {j : Nat} (hj : j < 64) : bt6 (A &&& (B ^^^ (-1))) j = (bt6 A j && !bt6 B j) := by
  unfold bt6
  rw [Int64.toBitVec_and, Int64.toBitVec_xor, BitVec.getLsbD_and, BitVec.getLsbD_xor]
  have h1 : (-1 : Int64).toBitVec = BitVec.allOnes 64 := by decide
  rw [h1, BitVec.getLsbD_allOnes]
  simp [hj]
theorem bt6_at {S : Int64} {w : Nat} (hw : w < 64) : ((S >>> ((nI w).toInt64 &&& 63)) &&& 1) = if bt6 S w = true then 1 else 0 := by
  apply Int64.toBitVec_inj.mp
  rw [Int64.toBitVec_and, Int64.toBitVec_shiftRight]
  show (S.toBitVec.sshiftRight' (((nI w).toInt64 &&& 63).toBitVec.smod 64)) &&& 1#64 = _
  rw [BitVec.sshiftRight_eq', shk w hw, BitVec.and_one_eq_setWidth_ofBool_getLsbD, BitVec.getLsbD_sshiftRight]
  unfold bt6
  simp [hw]
  generalize S.toBitVec[w] = x
  cases x <;> rfl
theorem cmp1 {S : Int64} {w : Nat} (hw : w < 64) : lg_cmp ((S >>> ((nI w).toInt64 &&& 63)) &&& 1) 1 = 0 ↔ bt6 S w = true := by
  rw [bt6_at hw]
  cases bt6 S w <;> decide
theorem cmp0 {S : Int64} {w : Nat} (hw : w < 64) : lg_cmp ((S >>> ((nI w).toInt64 &&& 63)) &&& 1) 0 = 0 ↔ bt6 S w = false := by
  rw [bt6_at hw]
  cases bt6 S w <;> decide
theorem cmpz {S : Int64} : lg_cmp S 0 = 0 ↔ S = 0 := by
  unfold lg_cmp
  constructor
  · intro h
    by_cases h2 : S = 0
    · exact h2
    · exfalso
      revert h
      by_cases h3 : 0 < S <;> simp [h2, h3]
  · intro h; subst h; decide
def acS (q : Nat → Bool) : Nat → Int64
  | 0 => 0
  | w + 1 => acS q w ||| (if q w = true then sh1 w else 0)
theorem acS_bit (q : Nat → Bool) {j : Nat} (hj : j < 64) : ∀ w, w ≤ 64 → bt6 (acS q w) j = (decide (j < w) && q j)
  | 0, _ => by rw [acS, bt6_0]; simp
  | w + 1, h => by
    rw [acS, bt6_or, acS_bit q hj w (by omega)]
    by_cases hq : q w = true
    · rw [if_pos hq, bt6_sh1 (by omega) hj]
      by_cases e : j = w
      · subst e; simp [hq]
      · by_cases h2 : j < w
        · simp [h2, e, show j < w + 1 by omega]
        · simp [h2, e, show ¬ j < w + 1 by omega]
    · rw [if_neg hq, bt6_0, Bool.or_false]
      by_cases e : j = w
      · subst e
        have : q j = false := by simpa using hq
        simp [this]
      · by_cases h2 : j < w
        · simp [h2, show j < w + 1 by omega]
        · simp [h2, show ¬ j < w + 1 by omega]
def iv (lo hi w : Nat) : Bool := decide (lo ≤ w ∧ w ≤ hi)
def seI (lo hi : Nat) : Int64 := acS (iv lo hi) 61
theorem seI_bit {lo hi j : Nat} (hj : j < 64) (hh : hi ≤ 60) : bt6 (seI lo hi) j = iv lo hi j := by
  rw [seI, acS_bit _ hj 61 (by decide)]
  by_cases h : j < 61
  · simp [h]
  · have : iv lo hi j = false := decide_eq_false (by omega)
    simp [this]
theorem acS_eq {p q : Nat → Bool} (h : ∀ j, j < 61 → p j = q j) : acS p 61 = acS q 61 := by
  apply bt6_ext
  intro j hj
  rw [acS_bit p hj 61 (by decide), acS_bit q hj 61 (by decide)]
  by_cases h2 : j < 61
  · rw [h j h2]
  · simp [h2]
theorem seI_rest {lo e hi : Nat} (h1 : lo ≤ e) (h2 : e ≤ hi) (h3 : hi ≤ 60) : seI lo hi &&& (seI lo e ^^^ (-1)) = seI (e + 1) hi := by
  apply bt6_ext
  intro j hj
  rw [bt6_not hj, seI_bit hj h3, seI_bit hj (by omega), seI_bit hj h3]
  unfold iv
  by_cases a : lo ≤ j ∧ j ≤ hi
  · by_cases b : lo ≤ j ∧ j ≤ e
    · simp [b, show ¬ (e + 1 ≤ j ∧ j ≤ hi) by omega]
    · rw [decide_eq_true a, decide_eq_false b, decide_eq_true (show e + 1 ≤ j ∧ j ≤ hi from ⟨by omega, a.2⟩)]; rfl
  · simp [a, show ¬ (e + 1 ≤ j ∧ j ≤ hi) by omega]
theorem seI_0 {lo hi : Nat} (h3 : hi ≤ 60) : seI lo hi = 0 ↔ hi < lo := by
  constructor
  · intro h
    rcases Nat.lt_or_ge hi lo with q | q
    · exact q
    · exfalso
      have h1 : bt6 (seI lo hi) lo = true := by rw [seI_bit (by omega) h3]; exact decide_eq_true ⟨Nat.le_refl _, q⟩
      rw [h, bt6_0] at h1
      cases h1
  · intro h
    apply bt6_ext
    intro j hj
    rw [seI_bit hj h3, bt6_0]
    exact decide_eq_false (by omega)
/-! cups never fall as the weight grows -/
theorem drk_mono {law n h w v : Nat} (hwv : w ≤ v) : drk law w n h ≤ drk law v n h := by
  unfold drk dk
  apply Nat.div_le_div_right
  have : lP law 0 * w ≤ lP law 0 * v := Nat.mul_le_mul_left _ hwv
  omega
theorem eoS_spec {c : Nat → Nat} (hc : ∀ w v, w ≤ v → c w ≤ c v) (d : Nat) : ∀ fuel w, c w = d → (∀ v, w ≤ v → v ≤ w + fuel → (c v = d ↔ v ≤ eoS c d fuel w))
  | 0, w, h, v, h1, h2 => by
    have : v = w := by omega
    subst this
    exact ⟨fun _ => Nat.le_refl _, fun _ => h⟩
  | fuel + 1, w, h, v, h1, h2 => by
    rw [eoS]
    by_cases e : c (w + 1) = d
    · rw [if_pos e]
      by_cases hv : v = w
      · subst hv
        exact ⟨fun _ => by have := (eoS_in c d fuel (v + 1)).1; omega, fun _ => h⟩
      · exact eoS_spec hc d fuel (w + 1) e v (by omega) (by omega)
    · rw [if_neg e]
      by_cases hv : v = w
      · subst hv
        exact ⟨fun _ => Nat.le_refl _, fun _ => h⟩
      · constructor
        · intro q
          exfalso
          have h3 := hc w (w + 1) (by omega)
          have h4 := hc (w + 1) v (by omega)
          omega
        · intro q; omega
/-! the weights that a load can be are a span -/
theorem canW_conv {f : Nat → Nat → Nat} {m j a b w : Nat} (ha : canW f m j a = true) (hb : canW f m j b = true) (h1 : a ≤ w) (h2 : w ≤ b) : canW f m j w = true := by
  refine decide_eq_true (fun i hi e3 e5 => ?_)
  have p1 := of_decide_eq_true ha i hi e3 e5
  have p2 := of_decide_eq_true hb i hi e3 e5
  have q1 := drk_mono (law := f 5 (f 8 (6 * i + 0))) (n := f 8 (6 * i + 1)) (h := f 8 (6 * i + 2)) h1
  have q2 := drk_mono (law := f 5 (f 8 (6 * i + 0))) (n := f 8 (6 * i + 1)) (h := f 8 (6 * i + 2)) h2
  omega
theorem upS_true {p : Nat → Bool} {a : Nat} (ha : p a = true) : ∀ fuel w, w ≤ a → a ≤ w + fuel → p (upS p fuel w) = true
  | 0, w, h1, h2 => by
    have : w = a := by omega
    subst this; exact ha
  | fuel + 1, w, h1, h2 => by
    rw [upS]
    split
    · assumption
    · rename_i hw
      rcases Nat.lt_or_ge w a with q | q
      · exact upS_true ha fuel (w + 1) (by omega) (by omega)
      · have : w = a := by omega
        subst this; exact absurd ha hw
theorem dnS_true {p : Nat → Bool} {a : Nat} (ha : p a = true) : ∀ fuel w, a ≤ w → w ≤ a + fuel → p (dnS p fuel w) = true
  | 0, w, h1, h2 => by
    have : w = a := by omega
    subst this; exact ha
  | fuel + 1, w, h1, h2 => by
    rw [dnS]
    split
    · assumption
    · rename_i hw
      rcases Nat.lt_or_ge a w with q | q
      · exact dnS_true ha fuel (w - 1) (by omega) (by omega)
      · have : w = a := by omega
        subst this; exact absurd ha hw
theorem canW_iv {n : Nat → Nat} {f : Nat → Nat → Nat} {k : Nat → Nat} {q : Nat} (hI : XI n f k q) {j : Nat} (hj : j < n 4) : acS (canW f (n 8) j) 61 = seI (loP (canW f (n 8) j)) (hiP (canW f (n 8) j)) := by
  have h0 := canW_true hI j
  have h60 : f 4 j ≤ 60 := hI.2.2.2.2.1 j hj
  have hlo : canW f (n 8) j (loP (canW f (n 8) j)) = true := upS_true h0 60 0 (by omega) (by omega)
  have hhi : canW f (n 8) j (hiP (canW f (n 8) j)) = true := dnS_true h0 60 60 (by omega) (by omega)
  refine acS_eq (fun w hw => ?_)
  rcases Bool.eq_false_or_eq_true (canW f (n 8) j w) with e | e
  · rw [e]
    exact (decide_eq_true ⟨upS_min _ e 60 0 (by omega), dnS_max _ e 60 60 (by omega)⟩).symm
  · rw [e]
    refine (decide_eq_false (fun q => ?_)).symm
    have := canW_conv hlo hhi q.1 q.2
    rw [e] at this
    cases this
