theorem tyC_tx {vv : Int64} {nn n0 m9 : Nat} {g : Nat → Nat} {txx : Nat → Int32} (hm : m9 + 1 ≤ nn) (h : ∀ i, i < n0 + (nn - (m9 + 1)) → txx i &&& 255 = nI (tyC vv nn g n0 (m9 + 1) i)) : ∀ i, i < n0 + (nn - m9) → upd txx (n0 + (nn - (m9 + 1))) (vp_nar .byte ((nI (byX vv m9)).toInt8.toInt32)) i &&& 255 = nI (tyC vv nn g n0 m9 i) := by
  intro i hi
  rw [← tyC_s vv nn g n0 hm]
  by_cases e : i = n0 + (nn - (m9 + 1))
  · subst e
    rw [pk_us, va_up_self, pk_vb]
    exact sc_k8 _ (byX_lt vv m9)
  · rw [pk_un e, va_up_ne _ _ e]
    exact h i (by omega)

abbrev rIm (nT : Nat) (u : Nat → Nat) (b1 b2 : Bool) (f9 : Nat → Nat) (n10 : Nat) (f10 : Nat → Nat) (k6 : Nat) (f11 : Nat → Nat) (n12 : Nat) (f12 : Nat → Nat) (k7 : Nat) : Prop := (b1 = true → reN nT (fun x => u (80 + x)) f9 n10 f10 k6) ∧ (b2 = true → reN nT (fun x => u (160 + x)) f11 n12 f12 k7)
theorem cpN_at {g f : Nat → Nat} {n i : Nat} (h : i < n) : cpN g f n i = g i := by unfold cpN; rw [if_pos h]

theorem reN_keep {nT : Nat} {u v lk : Nat → Nat} {nf : Nat} {fc : Nat → Nat} {h : Nat} (H : reN nT u lk nf fc h) (hn : nf ≤ 12) (hu : ∀ x, x < 80 → v x = u x) : reN nT v lk nf fc h :=
  reN_map H hu hn (fun _ _ => rfl) (fun _ _ => rfl)
