theorem RK_of {n : Nat → Nat} {f : Nat → Nat → Nat} {k : Nat → Nat} {g : Nat → Nat → Nat} {q : Nat} (hI : XI n f k q) (hM : RQ n f k g) : RK n f k g (f 7) q := by
  obtain ⟨i4, i5, i6, iq, iw, il, i7, i8, ih9, ik, iF⟩ := hI
  obtain ⟨m2, m3, m4, m5, m0, m6, m7, m8⟩ := hM
  exact ⟨m4, m5, fun t ht => ⟨(m0 t (by omega)).trans (if_pos ht), ik t ht⟩, m6, i5, il, ih9⟩

def tolU (f : Nat → Nat → Nat) (law m : Nat) : Bool := decide (∀ u, u < m → drk law (f 6 (4 * u)) (f 6 (4 * u + 1)) (f 6 (4 * u + 2)) = f 6 (4 * u + 3))
theorem tolU_s (f : Nat → Nat → Nat) (law i : Nat) : tolU f law (i + 1) = (tolU f law i && decide (drk law (f 6 (4 * i)) (f 6 (4 * i + 1)) (f 6 (4 * i + 2)) = f 6 (4 * i + 3))) := by
  unfold tolU
  by_cases h : ∀ u, u < i → drk law (f 6 (4 * u)) (f 6 (4 * u + 1)) (f 6 (4 * u + 2)) = f 6 (4 * u + 3)
  · by_cases h2 : drk law (f 6 (4 * i)) (f 6 (4 * i + 1)) (f 6 (4 * i + 2)) = f 6 (4 * i + 3)
    · rw [decide_eq_true h, decide_eq_true h2, decide_eq_true (lt_s h h2)]; rfl
    · rw [decide_eq_true h, decide_eq_false h2, decide_eq_false (fun z => h2 (z i (by omega)))]; rfl
  · rw [decide_eq_false h, decide_eq_false (fun z => h (fun a ha => z a (by omega)))]; rfl
theorem tolU_no {f : Nat → Nat → Nat} {law i m : Nat} (h : tolU f law i = false) (hm : i ≤ m) : tolU f law m = false :=
  decide_eq_false (fun z => of_decide_eq_false h (fun u hu => z u (by omega)))

def fiI (o : Option Nat) : Int32 := o.elim (-9) (fun q => nI q)
theorem firS_cnt {p : Nat → Bool} : ∀ fuel law, cntS p fuel law 0 = 0 ∨ True
  | _, _ => Or.inr trivial

theorem nI_nle9 {a : Nat} (h : a < 2 ^ 31) : ¬ nI a ≤ -9 := by
  intro e
  have h2 := Int32.le_iff_toInt_le.mp e
  rw [nI_toInt h] at h2
  have : (-9 : Int32).toInt = -9 := rfl
  omega

theorem lt_sub9 {v c y : Nat} (hv : v < 2 ^ 20) (hc : c < 2 ^ 20) (hy : y < 2 ^ 20) : nI v < nI c - nI y ↔ v + y < c := by
  rw [Int32.lt_iff_toInt_lt, nI_toInt (by omega), pk_sub_toInt (by omega) (by omega)]
  omega
