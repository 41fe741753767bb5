def LU (g0 g2 : Nat → Nat → Nat) : Prop := g2 2 0 = g0 2 0 ∧ (∀ x, x < 5 → g2 3 x = g0 3 x) ∧ g2 4 0 = g0 4 0 ∧ (∀ x, x < 6 → g2 5 x = g0 5 x ∧ g2 6 x = g0 6 x ∧ g2 7 x = g0 7 x ∧ g2 8 x = g0 8 x) ∧ ∀ i, 10 ≤ i → g2 i = g0 i
def R2 (g : Nat → Nat → Nat) (nl nt he : Nat) (wl lw : Nat → Nat) : Prop := g 2 1 = nl ∧ g 4 1 = nt ∧ g 9 1 = he ∧ nl ≤ 5 ∧ nt ≤ 6 ∧ he ≤ 9 ∧ (∀ l, l < nl → g 3 (5 + l) = wl l ∧ wl l ≤ 60) ∧ ∀ t, t < nt → lw t < 3240 ∧ g 5 (6 + t) = lP (lw t) 0 ∧ g 6 (6 + t) = lP (lw t) 1 ∧ g 7 (6 + t) = lP (lw t) 2 ∧ g 8 (6 + t) = lP (lw t) 3
def gIn (F : Nat → Nat) (N : Nat) (g0 : Nat → Nat → Nat) (o : Nat ⊕ (Nat × Nat × Nat × Nat × (Nat → Nat) × (Nat → Nat))) (it : Nat) (w : Nat ⊕ Nat) (hh : Bool) (g2 : Nat → Nat → Nat) : Prop := LU g0 g2 ∧ w.elim (fun x => o = .inl x) (fun p => it ≤ p ∧ ∃ (nl nt he : Nat) (wl lw : Nat → Nat), R2 g2 nl nt he wl lw ∧ o = pRun F N (201 - it) p nl nt he it hh wl lw)
theorem mS_v {F : Nat → Nat} {N : Nat} {w : Nat ⊕ Nat} {at_ st so va : Nat} {fl : Int32} (h : mS F N w at_ st so va fl) : ∀ q, w = .inr q → tKd F N q = 5 → va = tVl F N q := by
  intro q e
  subst e
  exact h.2.2.2.2.2.2.2.2.2
theorem mS_k {F : Nat → Nat} {N : Nat} {w : Nat ⊕ Nat} {at_ st so va : Nat} {fl : Int32} (h : mS F N w at_ st so va fl) : ∀ q, w = .inr q → so = mK (tKd F N q) := by
  intro q e
  subst e
  exact h.2.2.2.2.2.2.2.2.1
theorem mS_l {F : Nat → Nat} {N x : Nat} {at_ st so va : Nat} {fl : Int32} (h : mS F N (.inl x) at_ st so va fl) (hN : N ≤ 200) : ¬ fl = -9 := by
  have h1 : x ≤ N := h.2.2.2.2.1
  have h2 : fl = nI x := h.2.2.2.2.2
  rw [h2]
  exact nI_n9 (by omega)
theorem mS_r {F : Nat → Nat} {N p : Nat} {at_ st so va : Nat} {fl : Int32} (h : mS F N (.inr p) at_ st so va fl) : fl = -9 := h.2.2.2.2.2.1
theorem mK_012 {c : Nat} (h : c ≤ 6) : (mK c = 0 ↔ c = 2) ∧ (mK c = 1 ↔ c = 3) ∧ (mK c = 2 ↔ c = 4) ∧ (mK c = 3 ↔ c = 0) := by
  unfold mK
  refine ⟨?_, ?_, ?_, ?_⟩ <;> (repeat' split) <;> omega
theorem LU_2 {g0 g : Nat → Nat → Nat} {nl : Nat} (h : LU g0 g) (v : Nat) : LU g0 (va_up (va_up g 2 (va_up (g 2) 1 (nl + 1))) 3 (va_up (g 3) (5 + nl) v)) := by
  obtain ⟨h1, h2, h3, h4, h5⟩ := h
  refine ⟨?_, fun x hx => ?_, ?_, fun x hx => ?_, fun i hi => ?_⟩
  · simpa [va_up] using h1
  · rw [va_up_self, va_up_ne _ _ (by omega)]; exact h2 x hx
  · simpa [va_up] using h3
  · simpa [va_up] using h4 x hx
  · rw [va_up_ne _ _ (by omega), va_up_ne _ _ (by omega)]; exact h5 i hi
theorem LU_3 {g0 g : Nat → Nat → Nat} {nt : Nat} (h : LU g0 g) (v1 v2 v3 v4 : Nat) : LU g0 (va_up (va_up (va_up (va_up (va_up g 4 (va_up (g 4) 1 (nt + 1))) 5 (va_up (g 5) (6 + nt) v1)) 6 (va_up (g 6) (6 + nt) v2)) 7 (va_up (g 7) (6 + nt) v3)) 8 (va_up (g 8) (6 + nt) v4)) := by
  obtain ⟨h1, h2, h3, h4, h5⟩ := h
  refine ⟨?_, fun x hx => ?_, ?_, fun x hx => ?_, fun i hi => ?_⟩
  · simpa [va_up] using h1
  · simpa [va_up] using h2 x hx
  · simpa [va_up] using h3
  · have h6 : ¬ x = 6 + nt := by omega
    simpa [va_up, h6] using h4 x hx
  · rw [va_up_ne _ _ (by omega), va_up_ne _ _ (by omega), va_up_ne _ _ (by omega), va_up_ne _ _ (by omega), va_up_ne _ _ (by omega)]; exact h5 i hi
theorem LU_4 {g0 g : Nat → Nat → Nat} (h : LU g0 g) (v : Nat) : LU g0 (va_up g 9 (va_up (g 9) 1 v)) := by
  obtain ⟨h1, h2, h3, h4, h5⟩ := h
  refine ⟨?_, fun x hx => ?_, ?_, fun x hx => ?_, fun i hi => ?_⟩
  · simpa [va_up] using h1
  · simpa [va_up] using h2 x hx
  · simpa [va_up] using h3
  · simpa [va_up] using h4 x hx
  · rw [va_up_ne _ _ (by omega)]; exact h5 i hi
theorem R2_2 {g : Nat → Nat → Nat} {nl nt he : Nat} {wl lw : Nat → Nat} (hR : R2 g nl nt he wl lw) (hn : nl < 5) {v : Nat} (hv : v ≤ 60) : R2 (va_up (va_up g 2 (va_up (g 2) 1 (nl + 1))) 3 (va_up (g 3) (5 + nl) v)) (nl + 1) nt he (va_up wl nl v) lw := by
  obtain ⟨r1, r2, r3, r4, r5, r6, r7, r8⟩ := hR
  refine ⟨?_, ?_, ?_, by omega, r5, r6, fun l hl => ?_, fun t ht => ?_⟩
  · simp [va_up]
  · simpa [va_up] using r2
  · simpa [va_up] using r3
  · rw [va_up_self]
    by_cases e : l = nl
    · subst e; rw [va_up_self, va_up_self]; exact ⟨rfl, hv⟩
    · rw [va_up_ne _ _ (by omega), va_up_ne _ _ e]; exact r7 l (by omega)
  · simpa [va_up] using r8 t ht
theorem R2_4 {g : Nat → Nat → Nat} {nl nt he : Nat} {wl lw : Nat → Nat} (hR : R2 g nl nt he wl lw) {v : Nat} (hv : v ≤ 9) : R2 (va_up g 9 (va_up (g 9) 1 v)) nl nt v wl lw := by
  obtain ⟨r1, r2, r3, r4, r5, r6, r7, r8⟩ := hR
  refine ⟨?_, ?_, ?_, r4, r5, hv, fun l hl => ?_, fun t ht => ?_⟩
  · simpa [va_up] using r1
  · simpa [va_up] using r2
  · simp [va_up]
  · simpa [va_up] using r7 l hl
  · simpa [va_up] using r8 t ht
theorem R2_3 {g : Nat → Nat → Nat} {nl nt he : Nat} {wl lw : Nat → Nat} (hR : R2 g nl nt he wl lw) (hn : nt < 6) {v1 v2 v3 v4 L : Nat} (hv : L < 3240 ∧ lP L 0 = v1 ∧ lP L 1 = v2 ∧ lP L 2 = v3 ∧ lP L 3 = v4) : R2 (va_up (va_up (va_up (va_up (va_up g 4 (va_up (g 4) 1 (nt + 1))) 5 (va_up (g 5) (6 + nt) v1)) 6 (va_up (g 6) (6 + nt) v2)) 7 (va_up (g 7) (6 + nt) v3)) 8 (va_up (g 8) (6 + nt) v4)) nl (nt + 1) he wl (va_up lw nt L) := by
  obtain ⟨r1, r2, r3, r4, r5, r6, r7, r8⟩ := hR
  obtain ⟨hL, rfl, rfl, rfl, rfl⟩ := hv
  refine ⟨?_, ?_, ?_, r4, by omega, r6, fun l hl => ?_, fun t ht => ?_⟩
  · simpa [va_up] using r1
  · simp [va_up]
  · simpa [va_up] using r3
  · simpa [va_up] using r7 l hl
  · by_cases e : t = nt
    · subst e; simp [va_up, hL]
    · have e2 : ¬ 6 + t = 6 + nt := by omega
      have := r8 t (by omega)
      simpa [va_up, e, e2] using this
theorem lwN_P {a b d t : Nat} (ha : 1 ≤ a ∧ a ≤ 9) (hb : b ≤ 9) (hd : 1 ≤ d ∧ d ≤ 9) (ht : t ≤ 3) : ((((a - 1) * 10 + b) * 9 + d) - 1) * 4 + t < 3240 ∧ lP (((((a - 1) * 10 + b) * 9 + d) - 1) * 4 + t) 0 = a ∧ lP (((((a - 1) * 10 + b) * 9 + d) - 1) * 4 + t) 1 = b ∧ lP (((((a - 1) * 10 + b) * 9 + d) - 1) * 4 + t) 2 = d ∧ lP (((((a - 1) * 10 + b) * 9 + d) - 1) * 4 + t) 3 = t := by
  generalize hL : ((((a - 1) * 10 + b) * 9 + d) - 1) * 4 + t = L
  refine ⟨by omega, ?_, ?_, ?_, ?_⟩
  · show L / 360 + 1 = a; omega
  · show L / 36 % 10 = b; omega
  · show L / 4 % 9 + 1 = d; omega
  · show L % 4 = t; omega

theorem ri_2f {F : Nat → Nat} {N : Nat} {g0 g : Nat → Nat → Nat} {o : Nat ⊕ (Nat × Nat × Nat × Nat × (Nat → Nat) × (Nat → Nat))} {it p nl nt he : Nat} {wl lw : Nat → Nat} {hh : Bool} (hp : p ≤ N) (hN : N ≤ 200) (hit : it ≤ p) (hL : LU g0 g) (hR : R2 g nl nt he wl lw) (ho : o = pRun F N (201 - it) p nl nt he it hh wl lw) (hk : tKd F N p = 2) (hx : ¬ nl < 5) : gIn F N g0 o (it + 1) (.inl (tSt F N p)) hh g := by
  rw [pR_2 (by omega) hk] at ho
  unfold ldF at ho
  rw [if_neg hx] at ho
  exact ⟨hL, ho⟩

theorem ri_3f {F : Nat → Nat} {N : Nat} {g0 g : Nat → Nat → Nat} {o : Nat ⊕ (Nat × Nat × Nat × Nat × (Nat → Nat) × (Nat → Nat))} {it p nl nt he : Nat} {wl lw : Nat → Nat} {hh : Bool} (hp : p ≤ N) (hN : N ≤ 200) (hit : it ≤ p) (hL : LU g0 g) (hR : R2 g nl nt he wl lw) (ho : o = pRun F N (201 - it) p nl nt he it hh wl lw) (hk : tKd F N p = 3) (hx : ¬ nt < 6) : gIn F N g0 o (it + 1) (.inl (tSt F N p)) hh g := by
  rw [pR_3 (by omega) hk] at ho
  unfold tsF at ho
  rw [if_neg hx] at ho
  exact ⟨hL, ho⟩

theorem ri_4f {F : Nat → Nat} {N : Nat} {g0 g : Nat → Nat → Nat} {o : Nat ⊕ (Nat × Nat × Nat × Nat × (Nat → Nat) × (Nat → Nat))} {it p nl nt he : Nat} {wl lw : Nat → Nat} {hh : Bool} (hp : p ≤ N) (hN : N ≤ 200) (hit : it ≤ p) (hL : LU g0 g) (hR : R2 g nl nt he wl lw) (ho : o = pRun F N (201 - it) p nl nt he it hh wl lw) (hk : tKd F N p = 4) (hx : hh = true) : gIn F N g0 o (it + 1) (.inl (tSt F N p)) hh g := by
  rw [pR_4 (by omega) hk] at ho
  unfold htF at ho
  rw [if_pos hx] at ho
  exact ⟨hL, ho⟩

theorem ri_w {F : Nat → Nat} {N : Nat} {g0 g : Nat → Nat → Nat} {o : Nat ⊕ (Nat × Nat × Nat × Nat × (Nat → Nat) × (Nat → Nat))} {it p nl nt he : Nat} {wl lw : Nat → Nat} {hh : Bool} (hp : p ≤ N) (hN : N ≤ 200) (hit : it ≤ p) (hL : LU g0 g) (hR : R2 g nl nt he wl lw) (ho : o = pRun F N (201 - it) p nl nt he it hh wl lw) (hk : tKd F N p ≠ 0 ∧ tKd F N p ≠ 2 ∧ tKd F N p ≠ 3 ∧ tKd F N p ≠ 4)  : gIn F N g0 o (it + 1) (.inl (tSt F N p)) hh g := by
  rw [pR_w (by omega) hk] at ho
  exact ⟨hL, ho⟩

theorem ri_2 {F : Nat → Nat} {N : Nat} {g0 g : Nat → Nat → Nat} {o : Nat ⊕ (Nat × Nat × Nat × Nat × (Nat → Nat) × (Nat → Nat))} {it p nl nt he : Nat} {wl lw : Nat → Nat} {hh : Bool} (hp : p ≤ N) (hN : N ≤ 200) (hit : it ≤ p) (hL : LU g0 g) (hR : R2 g nl nt he wl lw) (ho : o = pRun F N (201 - it) p nl nt he it hh wl lw) (hk : tKd F N p = 2) (hx : nl < 5) {v : Nat} (hv : tKd F N (tNx F N p) = 5 → v = tVl F N (tNx F N p)) : gIn F N g0 o (it + 1) (duS F N (duS F N (.inr (tNx F N p)) (fun p => nOk F N p 0 60)) (fun p => decide (tKd F N p = 6))) hh (va_up (va_up g 2 (va_up (g 2) 1 (nl + 1))) 3 (va_up (g 3) (5 + nl) v)) := by
  refine ⟨LU_2 hL v, ?_⟩
  have t1 := tok_lt hp (show tKd F N p ≠ 0 by omega)
  have t2 := tok_le (F := F) t1.2
  have t3 := tok_le (F := F) t2.2
  rw [pR_2 (by omega) hk] at ho
  unfold ldF at ho
  rw [if_pos hx] at ho
  by_cases h0 : nOk F N (tNx F N p) 0 60 = true
  · rw [if_pos h0] at ho
    rw [show duS F N (.inr (tNx F N p)) (fun p => nOk F N p 0 60) = .inr (tNx F N (tNx F N p)) from if_pos h0]
    unfold enF at ho
    by_cases h9 : decide (tKd F N (tNx F N (tNx F N p)) = 6) = true
    · rw [if_pos h9] at ho
      rw [show duS F N (.inr (tNx F N (tNx F N p))) (fun p => decide (tKd F N p = 6)) = .inr (tNx F N (tNx F N (tNx F N p))) from if_pos h9]
      obtain ⟨e1, e2, e3⟩ := nOk_5 h0
      rw [← hv e1] at ho e3
      exact ⟨by omega, nl + 1, nt, he, _, _, R2_2 hR hx e3, ho⟩
    · rw [if_neg h9] at ho
      rw [show duS F N (.inr (tNx F N (tNx F N p))) (fun p => decide (tKd F N p = 6)) = .inl (tSt F N (tNx F N (tNx F N p))) from if_neg h9]
      exact ho
  · rw [if_neg h0] at ho
    rw [show duS F N (.inr (tNx F N p)) (fun p => nOk F N p 0 60) = .inl (tSt F N (tNx F N p)) from if_neg h0]
    exact ho

theorem ri_4 {F : Nat → Nat} {N : Nat} {g0 g : Nat → Nat → Nat} {o : Nat ⊕ (Nat × Nat × Nat × Nat × (Nat → Nat) × (Nat → Nat))} {it p nl nt he : Nat} {wl lw : Nat → Nat} {hh : Bool} (hp : p ≤ N) (hN : N ≤ 200) (hit : it ≤ p) (hL : LU g0 g) (hR : R2 g nl nt he wl lw) (ho : o = pRun F N (201 - it) p nl nt he it hh wl lw) (hk : tKd F N p = 4) (hx : hh = false) {v : Nat} (hv : tKd F N (tNx F N p) = 5 → v = tVl F N (tNx F N p)) : gIn F N g0 o (it + 1) (duS F N (duS F N (.inr (tNx F N p)) (fun p => nOk F N p 0 9)) (fun p => decide (tKd F N p = 6))) true (va_up g 9 (va_up (g 9) 1 v)) := by
  refine ⟨LU_4 hL v, ?_⟩
  have t1 := tok_lt hp (show tKd F N p ≠ 0 by omega)
  have t2 := tok_le (F := F) t1.2
  have t3 := tok_le (F := F) t2.2
  rw [pR_4 (by omega) hk] at ho
  unfold htF at ho
  rw [if_neg (by rw [hx]; decide)] at ho
  by_cases h0 : nOk F N (tNx F N p) 0 9 = true
  · rw [if_pos h0] at ho
    rw [show duS F N (.inr (tNx F N p)) (fun p => nOk F N p 0 9) = .inr (tNx F N (tNx F N p)) from if_pos h0]
    unfold enF at ho
    by_cases h9 : decide (tKd F N (tNx F N (tNx F N p)) = 6) = true
    · rw [if_pos h9] at ho
      rw [show duS F N (.inr (tNx F N (tNx F N p))) (fun p => decide (tKd F N p = 6)) = .inr (tNx F N (tNx F N (tNx F N p))) from if_pos h9]
      obtain ⟨e1, e2, e3⟩ := nOk_5 h0
      rw [← hv e1] at ho e3
      exact ⟨by omega, nl, nt, v, _, _, R2_4 hR e3, ho⟩
    · rw [if_neg h9] at ho
      rw [show duS F N (.inr (tNx F N (tNx F N p))) (fun p => decide (tKd F N p = 6)) = .inl (tSt F N (tNx F N (tNx F N p))) from if_neg h9]
      exact ho
  · rw [if_neg h0] at ho
    rw [show duS F N (.inr (tNx F N p)) (fun p => nOk F N p 0 9) = .inl (tSt F N (tNx F N p)) from if_neg h0]
    exact ho

theorem ri_3 {F : Nat → Nat} {N : Nat} {g0 g : Nat → Nat → Nat} {o : Nat ⊕ (Nat × Nat × Nat × Nat × (Nat → Nat) × (Nat → Nat))} {it p nl nt he : Nat} {wl lw : Nat → Nat} {hh : Bool} (hp : p ≤ N) (hN : N ≤ 200) (hit : it ≤ p) (hL : LU g0 g) (hR : R2 g nl nt he wl lw) (ho : o = pRun F N (201 - it) p nl nt he it hh wl lw) (hk : tKd F N p = 3) (hx : nt < 6) {v1 v2 v3 v4 : Nat} (hv1 : ∀ q, (Sum.inr (tNx F N p) : Nat ⊕ Nat) = .inr q → tKd F N q = 5 → v1 = tVl F N q) (hv2 : ∀ q, duS F N (.inr (tNx F N p)) (fun p => nOk F N p 1 9) = .inr q → tKd F N q = 5 → v2 = tVl F N q) (hv3 : ∀ q, duS F N (duS F N (.inr (tNx F N p)) (fun p => nOk F N p 1 9)) (fun p => nOk F N p 0 9) = .inr q → tKd F N q = 5 → v3 = tVl F N q) (hv4 : ∀ q, duS F N (duS F N (duS F N (.inr (tNx F N p)) (fun p => nOk F N p 1 9)) (fun p => nOk F N p 0 9)) (fun p => nOk F N p 1 9) = .inr q → tKd F N q = 5 → v4 = tVl F N q) : gIn F N g0 o (it + 1) (duS F N (duS F N (duS F N (duS F N (duS F N (.inr (tNx F N p)) (fun p => nOk F N p 1 9)) (fun p => nOk F N p 0 9)) (fun p => nOk F N p 1 9)) (fun p => nOk F N p 0 3)) (fun p => decide (tKd F N p = 6))) hh (va_up (va_up (va_up (va_up (va_up g 4 (va_up (g 4) 1 (nt + 1))) 5 (va_up (g 5) (6 + nt) v1)) 6 (va_up (g 6) (6 + nt) v2)) 7 (va_up (g 7) (6 + nt) v3)) 8 (va_up (g 8) (6 + nt) v4)) := by
  refine ⟨LU_3 hL v1 v2 v3 v4, ?_⟩
  have t1 := tok_lt hp (show tKd F N p ≠ 0 by omega)
  have t2 := tok_le (F := F) t1.2
  have t3 := tok_le (F := F) t2.2
  have t4 := tok_le (F := F) t3.2
  have t5 := tok_le (F := F) t4.2
  have t6 := tok_le (F := F) t5.2
  rw [pR_3 (by omega) hk] at ho
  unfold tsF at ho
  rw [if_pos hx, show nmF F N (tNx F N p) 4 0 = (if nOk F N (tNx F N p) 1 9 = true then (if nOk F N (tNx F N (tNx F N p)) 0 9 = true then (if nOk F N (tNx F N (tNx F N (tNx F N p))) 1 9 = true then (if nOk F N (tNx F N (tNx F N (tNx F N (tNx F N p)))) 0 3 = true then enF F N (tNx F N (tNx F N (tNx F N (tNx F N (tNx F N p))))) else some (tSt F N (tNx F N (tNx F N (tNx F N (tNx F N p)))))) else some (tSt F N (tNx F N (tNx F N (tNx F N p))))) else some (tSt F N (tNx F N (tNx F N p)))) else some (tSt F N (tNx F N p))) from rfl] at ho
  by_cases h0 : nOk F N (tNx F N p) 1 9 = true
  · rw [if_pos h0] at ho
    rw [show duS F N (.inr (tNx F N p)) (fun p => nOk F N p 1 9) = .inr (tNx F N (tNx F N p)) from if_pos h0]
    by_cases h1 : nOk F N (tNx F N (tNx F N p)) 0 9 = true
    · rw [if_pos h1] at ho
      rw [show duS F N (.inr (tNx F N (tNx F N p))) (fun p => nOk F N p 0 9) = .inr (tNx F N (tNx F N (tNx F N p))) from if_pos h1]
      by_cases h2 : nOk F N (tNx F N (tNx F N (tNx F N p))) 1 9 = true
      · rw [if_pos h2] at ho
        rw [show duS F N (.inr (tNx F N (tNx F N (tNx F N p)))) (fun p => nOk F N p 1 9) = .inr (tNx F N (tNx F N (tNx F N (tNx F N p)))) from if_pos h2]
        by_cases h3 : nOk F N (tNx F N (tNx F N (tNx F N (tNx F N p)))) 0 3 = true
        · rw [if_pos h3] at ho
          rw [show duS F N (.inr (tNx F N (tNx F N (tNx F N (tNx F N p))))) (fun p => nOk F N p 0 3) = .inr (tNx F N (tNx F N (tNx F N (tNx F N (tNx F N p))))) from if_pos h3]
          unfold enF at ho
          by_cases h9 : decide (tKd F N (tNx F N (tNx F N (tNx F N (tNx F N (tNx F N p))))) = 6) = true
          · rw [if_pos h9] at ho
            rw [show duS F N (.inr (tNx F N (tNx F N (tNx F N (tNx F N (tNx F N p)))))) (fun p => decide (tKd F N p = 6)) = .inr (tNx F N (tNx F N (tNx F N (tNx F N (tNx F N (tNx F N p)))))) from if_pos h9]
            obtain ⟨a1, a2, a3⟩ := nOk_5 h0
            obtain ⟨b1, b2, b3⟩ := nOk_5 h1
            obtain ⟨c1, c2, c3⟩ := nOk_5 h2
            obtain ⟨d1, d2, d3⟩ := nOk_5 h3
            have x1 : duS F N (.inr (tNx F N p)) (fun p => nOk F N p 1 9) = .inr (tNx F N (tNx F N p)) := if_pos h0
            have x2 : duS F N (.inr (tNx F N (tNx F N p))) (fun p => nOk F N p 0 9) = .inr (tNx F N (tNx F N (tNx F N p))) := if_pos h1
            have x3 : duS F N (.inr (tNx F N (tNx F N (tNx F N p)))) (fun p => nOk F N p 1 9) = .inr (tNx F N (tNx F N (tNx F N (tNx F N p)))) := if_pos h2
            have w1 := hv1 _ rfl a1
            have w2 := hv2 _ x1 b1
            have w3 := hv3 _ (by rw [x1, x2]) c1
            have w4 := hv4 _ (by rw [x1, x2, x3]) d1
            have hl := lwN_P (a := tVl F N (tNx F N p)) (b := tVl F N (tNx F N (tNx F N p))) (d := tVl F N (tNx F N (tNx F N (tNx F N p)))) (t := tVl F N (tNx F N (tNx F N (tNx F N (tNx F N p))))) ⟨a2, a3⟩ b3 ⟨c2, c3⟩ d3
            rw [← w1, ← w2, ← w3, ← w4] at hl
            refine ⟨by omega, nl, nt + 1, he, _, _, R2_3 hR hx hl, ?_⟩
            rw [w1, w2, w3, w4]
            exact ho
          · rw [if_neg h9] at ho
            rw [show duS F N (.inr (tNx F N (tNx F N (tNx F N (tNx F N (tNx F N p)))))) (fun p => decide (tKd F N p = 6)) = .inl (tSt F N (tNx F N (tNx F N (tNx F N (tNx F N (tNx F N p)))))) from if_neg h9]
            exact ho
        · rw [if_neg h3] at ho
          rw [show duS F N (.inr (tNx F N (tNx F N (tNx F N (tNx F N p))))) (fun p => nOk F N p 0 3) = .inl (tSt F N (tNx F N (tNx F N (tNx F N (tNx F N p))))) from if_neg h3]
          exact ho
      · rw [if_neg h2] at ho
        rw [show duS F N (.inr (tNx F N (tNx F N (tNx F N p)))) (fun p => nOk F N p 1 9) = .inl (tSt F N (tNx F N (tNx F N (tNx F N p)))) from if_neg h2]
        exact ho
    · rw [if_neg h1] at ho
      rw [show duS F N (.inr (tNx F N (tNx F N p))) (fun p => nOk F N p 0 9) = .inl (tSt F N (tNx F N (tNx F N p))) from if_neg h1]
      exact ho
  · rw [if_neg h0] at ho
    rw [show duS F N (.inr (tNx F N p)) (fun p => nOk F N p 1 9) = .inl (tSt F N (tNx F N p)) from if_neg h0]
    exact ho
