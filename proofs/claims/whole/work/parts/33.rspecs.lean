theorem i2c_nI {c : Nat} (h : c < 256) : ((nI c).toUInt32 % 65536).toInt32 = nI c := by
  rw [pk_char, pk_tn (by omega)]
  congr 1
  omega

abbrev isD (c : Nat) : Bool := decide (48 ≤ c ∧ c ≤ 57)
abbrev isL (c : Nat) : Bool := decide (97 ≤ c ∧ c ≤ 122)
/-- the word i stands at st and ends at pl -/
def isW (F : Nat → Nat) (st pl i : Nat) : Bool := decide (pl - st = lenW.getD i 0 ∧ ∀ x, x < lenW.getD i 0 → F (st + x) = (wdL i).getD x 0)
