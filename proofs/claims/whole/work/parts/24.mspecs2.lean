theorem enS1_no {n : Nat → Nat} {f : Nat → Nat → Nat} {k : Nat → Nat} {mm lo hi : Nat} {lk : Nat → Nat} (h1 : ¬ hi - lo + 1 ≤ mm) (h2 : ∀ u, u < n 5 → ¬ lwS (fun w => drk (f 5 u) w (lk u) (k 5)) hi 61 lo 0 ≤ mm) : enS (n 5) (cS f k) mm 1 lk lo hi = false := by
  rw [enS, decide_eq_false h1, Bool.false_or]
  refine decide_eq_false (fun ⟨t, ht, hp⟩ => h2 t ht ((lw_spA _ hi mm 61 lo 0).mpr ⟨Nat.zero_le _, hp⟩))
theorem enS_step {n : Nat → Nat} {f : Nat → Nat → Nat} {k : Nat → Nat} {mm lo hi w : Nat} {lk : Nat → Nat} (h1 : ¬ hi - lo + 1 ≤ mm) (h2 : ∀ u, u < n 5 → spA (cS f k u (lk u)) hi (fun a e => enS (n 5) (cS f k) mm w (va_up lk u (lk u + 1)) a e) 61 lo = false) : enS (n 5) (cS f k) mm (w + 1) lk lo hi = false := by
  rw [enS, decide_eq_false h1, Bool.false_or]
  refine decide_eq_false (fun ⟨t, ht, hp⟩ => ?_)
  exact absurd ((h2 t ht).symm.trans hp) (by decide)
