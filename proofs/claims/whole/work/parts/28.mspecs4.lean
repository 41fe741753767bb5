theorem upn {a b : Nat} (h : a = b) : a = b := h
def kn (u : Nat → Nat) (m t x h j c s : Nat) : Nat → Nat := va_up (va_up (va_up (va_up (va_up (va_up (va_up u (8 + 6 * m) t) (8 + 6 * m + 1) x) (8 + 6 * m + 2) h) (8 + 6 * m + 3) j) (8 + 6 * m + 4) c) (8 + 6 * m + 5) s) 7 (m + 1)
theorem kn_lo {u : Nat → Nat} {m t x h j c s i : Nat} (hi : i < 7) : kn u m t x h j c s i = u i := by
  unfold kn va_up
  repeat rw [if_neg (by omega)]
theorem reN_kn {nT : Nat} {u lk : Nat → Nat} {nf : Nat} {fc : Nat → Nat} {h : Nat} (H : reN nT u lk nf fc h) (t x j c s : Nat) : reN nT (kn u nf t x h j c s) lk (nf + 1) (adF fc (6 * nf) t x h j c s) h := by
  obtain ⟨h0, h6, h7, h8⟩ := H
  refine ⟨fun i hi => (kn_lo (by omega)).trans (h0 i hi), (kn_lo (by omega)).trans h6, ?_, fun y hy => ?_⟩
  · unfold kn va_up; rw [if_pos rfl]
  · by_cases q : y < 6 * nf
    · have := h8 y q
      unfold kn adF va_up
      repeat rw [if_neg (by omega)]
      exact this
    · obtain ⟨d, rfl⟩ : ∃ d, y = 6 * nf + d := ⟨y - 6 * nf, by omega⟩
      rcases (show d = 0 ∨ d = 1 ∨ d = 2 ∨ d = 3 ∨ d = 4 ∨ d = 5 by omega) with rfl | rfl | rfl | rfl | rfl | rfl <;> simp [kn, adF, va_up, Nat.add_assoc] <;> omega
theorem reN_lick {nT : Nat} {u lk : Nat → Nat} {nf : Nat} {fc : Nat → Nat} {h t : Nat} (H : reN nT u lk nf fc h) (ht : t < nT) (hT : nT ≤ 6) (x : Nat) : reN nT (va_up u t x) (va_up lk t x) nf fc h := by
  obtain ⟨h0, h6, h7, h8⟩ := H
  refine ⟨fun i hi => ?_, ?_, ?_, fun y hy => ?_⟩
  · by_cases e : i = t
    · subst e; simp [va_up, ht]
    · simp only [va_up, if_neg e]; exact h0 i hi
  · simp only [va_up]; rw [if_neg (by omega)]; exact h6
  · simp only [va_up]; rw [if_neg (by omega)]; exact h7
  · simp only [va_up]; rw [if_neg (by omega)]; exact h8 y hy
theorem lk_two {g : Nat → Nat} {t u : Nat} (h : t ≠ u) : va_up (va_up g t (g t + 1)) u (g u + 1) = lkUp (lkUp g t) u := by
  show _ = va_up _ _ (va_up g t (g t + 1) u + 1)
  rw [va_up_ne _ _ (Ne.symm h)]
theorem reN_heat {nT : Nat} {u lk : Nat → Nat} {nf : Nat} {fc : Nat → Nat} {h : Nat} (H : reN nT u lk nf fc h) (x : Nat) : reN nT (va_up u 6 x) lk nf fc x := by
  obtain ⟨h0, h6, h7, h8⟩ := H
  refine ⟨fun i hi => ?_, ?_, ?_, fun y hy => ?_⟩
  · simp only [va_up]; rw [if_neg (by omega)]; exact h0 i hi
  · simp [va_up]
  · simp only [va_up]; rw [if_neg (by omega)]; exact h7
  · simp only [va_up]; rw [if_neg (by omega)]; exact h8 y hy
theorem reN_less {nT : Nat} {u lk : Nat → Nat} {nf : Nat} {fc : Nat → Nat} {h : Nat} (H : reN nT u lk nf fc h) {m : Nat} (hm : m ≤ nf) : reN nT (va_up u 7 m) lk m fc h := by
  obtain ⟨h0, h6, h7, h8⟩ := H
  refine ⟨fun i hi => ?_, ?_, ?_, fun y hy => ?_⟩
  · simp only [va_up]; rw [if_neg (by omega)]; exact h0 i hi
  · simp only [va_up]; rw [if_neg (by omega)]; exact h6
  · simp [va_up]
  · simp only [va_up]; rw [if_neg (by omega)]; exact h8 y (by omega)
theorem reN_eq {nT : Nat} {u lk lk2 : Nat → Nat} {nf : Nat} {fc : Nat → Nat} {h : Nat} (H : reN nT u lk nf fc h) (e : ∀ t, t < nT → lk t = lk2 t) : reN nT u lk2 nf fc h := by
  obtain ⟨h0, h6, h7, h8⟩ := H
  refine ⟨fun i hi => ?_, h6, h7, h8⟩
  rw [h0 i hi]
  by_cases q : i < nT
  · rw [if_pos q, if_pos q, e i q]
  · rw [if_neg q, if_neg q]
theorem reN_zero {nT : Nat} {u lk : Nat → Nat} {nf : Nat} {fc : Nat → Nat} {h : Nat} (H : reN nT u lk nf fc h) : reN nT (zeF u 6) (zeF lk nT) nf fc h := by
  obtain ⟨h0, h6, h7, h8⟩ := H
  refine ⟨fun i hi => ?_, (zeF_at (by omega)).trans h6, (zeF_at (by omega)).trans h7, fun y hy => (zeF_at (by omega)).trans (h8 y hy)⟩
  unfold zeF cpN
  rw [if_pos hi]
  by_cases q : i < nT
  · rw [if_pos q, if_pos q]
  · rw [if_neg q]
theorem smS_cut {u lk : Nat → Nat} {nT : Nat} (h : ∀ t, t < 6 → u t = if t < nT then lk t else 0) : ∀ m, m ≤ 6 → smS u m = smS lk (min m nT)
  | 0, _ => by rw [Nat.zero_min]; rfl
  | m + 1, hm => by
    rw [smS, smS_cut h m (by omega), h m (by omega)]
    by_cases q : m < nT
    · rw [if_pos q, show min m nT = m by omega, show min (m + 1) nT = m + 1 by omega, smS]
    · rw [if_neg q, show min m nT = nT by omega, show min (m + 1) nT = nT by omega]; rfl
abbrev reM (nT : Nat) (u0 u lk : Nat → Nat) (nf : Nat) (fc : Nat → Nat) (h : Nat) : Prop := reN nT u lk nf fc h ∧ ∀ x, 80 ≤ x → u x = u0 x
theorem reM_kn {nT : Nat} {u0 u lk : Nat → Nat} {nf : Nat} {fc : Nat → Nat} {h : Nat} (H : reM nT u0 u lk nf fc h) (hf : nf < 12) (t x j c s : Nat) : reM nT u0 (kn u nf t x h j c s) lk (nf + 1) (adF fc (6 * nf) t x h j c s) h := by
  refine ⟨reN_kn H.1 t x j c s, fun y hy => ?_⟩
  unfold kn va_up
  repeat rw [if_neg (by omega)]
  exact H.2 y hy
theorem reM_lick {nT : Nat} {u0 u lk : Nat → Nat} {nf : Nat} {fc : Nat → Nat} {h t : Nat} (H : reM nT u0 u lk nf fc h) (ht : t < nT) (hT : nT ≤ 6) (x : Nat) : reM nT u0 (va_up u t x) (va_up lk t x) nf fc h :=
  ⟨reN_lick H.1 ht hT x, fun y hy => (va_up_ne _ _ (by omega)).trans (H.2 y hy)⟩
theorem reM_heat {nT : Nat} {u0 u lk : Nat → Nat} {nf : Nat} {fc : Nat → Nat} {h : Nat} (H : reM nT u0 u lk nf fc h) (x : Nat) : reM nT u0 (va_up u 6 x) lk nf fc x :=
  ⟨reN_heat H.1 x, fun y hy => (va_up_ne _ _ (by omega)).trans (H.2 y hy)⟩
theorem reM_less {nT : Nat} {u0 u lk : Nat → Nat} {nf : Nat} {fc : Nat → Nat} {h : Nat} (H : reM nT u0 u lk nf fc h) {m : Nat} (hm : m ≤ nf) : reM nT u0 (va_up u 7 m) lk m fc h :=
  ⟨reN_less H.1 hm, fun y hy => (va_up_ne _ _ (by omega)).trans (H.2 y hy)⟩
theorem reM_eq {nT : Nat} {u0 u lk lk2 : Nat → Nat} {nf : Nat} {fc : Nat → Nat} {h : Nat} (H : reM nT u0 u lk nf fc h) (e : ∀ t, t < nT → lk t = lk2 t) : reM nT u0 u lk2 nf fc h := ⟨reN_eq H.1 e, H.2⟩
theorem reM_zero {nT : Nat} {u0 u lk : Nat → Nat} {nf : Nat} {fc : Nat → Nat} {h : Nat} (H : reM nT u0 u lk nf fc h) : reM nT u0 (zeF u 6) (zeF lk nT) nf fc h :=
  ⟨reN_zero H.1, fun y hy => (zeF_at (by omega)).trans (H.2 y hy)⟩
theorem n_bast {p : Program} {l : Launch} {e : Env} {R : Room} {s : State} {m : MethodId} {args : Array Value} {below : List Frame} {meth : Method} {c : Code} {H : Heap} {locs : List Loc} {cells slots : Nat} {Q : State → Prop} {cc : ByteArray} {pc : Nat} {ls : Array Slot} {rest : List Value} {D : va_G} {G : ClassId × ClassId × ClassId} {ws : va_W} {a n j : Nat} {A : Nat → Prop} {H0 : Heap} {f : Nat → Int32} {x : Int32} (hx : p.tables.exec = Jvm.exec) (hb : c.code = cc) (hK : va_K D cls5 (tys3 G) s) (hP : va_P D cls5 ws H) (hD : va_D A ws) (hS : va_S A H0 H locs) (q0 : Nat) (ha : ws[q0]? = some (a, .inl (G.2.1, n, .inl f))) (hj : j < n) (hn : n < 2 ^ 31) (hdg : decode cc pc = .ok (.bastore, 1))
    (kk : ∀ (H1 : Heap) (locs1 : List Loc), va_P D cls5 (ws.set q0 (a, .inl (G.2.1, n, .inl (upd f j (vp_nar .byte x))))) H1 → va_D A (ws.set q0 (a, .inl (G.2.1, n, .inl (upd f j (vp_nar .byte x))))) → va_S A H0 H1 locs1 → W p l e R s m args below meth c H1 locs1 cells slots Q (F0 m (pc + 1) ls rest)) : W p l e R s m args below meth c H locs cells slots Q (F0 m pc ls (.int x :: .int (nI j) :: .ref a :: rest)) :=
  va_bast hx hb hK hP hD hS q0 1 ha rfl (vp_in_nI hj hn) hdg (fun H1 locs1 h1 h2 h3 => by
    rw [nI_clamp (by omega)] at h1 h2
    exact kk H1 locs1 h1 h2 h3)
theorem n_zast {p : Program} {l : Launch} {e : Env} {R : Room} {s : State} {m : MethodId} {args : Array Value} {below : List Frame} {meth : Method} {c : Code} {H : Heap} {locs : List Loc} {cells slots : Nat} {Q : State → Prop} {cc : ByteArray} {pc : Nat} {ls : Array Slot} {rest : List Value} {D : va_G} {G : ClassId × ClassId × ClassId} {ws : va_W} {a n j : Nat} {A : Nat → Prop} {H0 : Heap} {kp : Nat → Bool} (hx : p.tables.exec = Jvm.exec) (hb : c.code = cc) (hK : va_K D cls5 (tys3 G) s) (hP : va_P D cls5 ws H) (hD : va_D A ws) (hS : va_S A H0 H locs) (q0 : Nat) (ha : ws[q0]? = some (a, .inl (G.2.2, n, .inl (bF kp)))) (v : Bool) (hj : j < n) (hn : n < 2 ^ 31) (hdg : decode cc pc = .ok (.bastore, 1))
    (kk : ∀ (H1 : Heap) (locs1 : List Loc), va_P D cls5 (ws.set q0 (a, .inl (G.2.2, n, .inl (bF (va_up kp j v))))) H1 → va_D A (ws.set q0 (a, .inl (G.2.2, n, .inl (bF (va_up kp j v))))) → va_S A H0 H1 locs1 → W p l e R s m args below meth c H1 locs1 cells slots Q (F0 m (pc + 1) ls rest)) : W p l e R s m args below meth c H locs cells slots Q (F0 m pc ls (.int (bI v) :: .int (nI j) :: .ref a :: rest)) :=
  va_zast hx hb hK hP hD hS q0 2 ha rfl (vp_in_nI hj hn) hdg (fun H1 locs1 h1 h2 h3 => by
    have e1 : upd (bF kp) j (vp_nar .boolean (bI v)) = bF (va_up kp j v) := by
      funext i
      by_cases q : i = j
      · subst q; simp only [upd, va_up, bF, if_true]; cases v <;> rfl
      · simp [upd, va_up, bF, q]
    rw [nI_clamp (by omega), e1] at h1 h2
    exact kk H1 locs1 h1 h2 h3)
theorem adT_eq {u v : Nat → Nat} {m a b c d : Nat} (h : ∀ x, x < m → u x = v x) : ∀ x, x < m + 4 → adT u m a b c d x = adT v m a b c d x := by
  intro x hx
  unfold adT va_up
  split
  · rfl
  · split
    · rfl
    · split
      · rfl
      · split
        · rfl
        · exact h x (by omega)
def cpA (u : Nat → Nat) (fr t0 m : Nat) : Nat → Nat := fun i => if t0 ≤ i ∧ i < t0 + m then u (fr + (i - t0)) else u i
theorem cpA_0 (u : Nat → Nat) (fr t0 : Nat) : cpA u fr t0 0 = u := by funext i; unfold cpA; rw [if_neg (by omega)]
theorem cpA_s (u : Nat → Nat) (fr t0 m : Nat) : va_up (cpA u fr t0 m) (t0 + m) (u (fr + m)) = cpA u fr t0 (m + 1) := by
  funext i
  unfold va_up cpA
  by_cases e : i = t0 + m
  · subst e; rw [if_pos rfl, if_pos (by omega), show fr + (t0 + m - t0) = fr + m by omega]
  · rw [if_neg e]
    by_cases h : t0 ≤ i ∧ i < t0 + m
    · rw [if_pos h, if_pos (by omega)]
    · rw [if_neg h, if_neg (by omega)]
theorem cpA_at {u : Nat → Nat} {fr t0 m i : Nat} (h : ¬ (t0 ≤ i ∧ i < t0 + m)) : cpA u fr t0 m i = u i := by unfold cpA; rw [if_neg h]
theorem cpA_in {u : Nat → Nat} {fr t0 m i : Nat} (h : i < m) : cpA u fr t0 m (t0 + i) = u (fr + i) := by unfold cpA; rw [if_pos (by omega), show t0 + i - t0 = i by omega]
theorem reN_map {nT : Nat} {u v lk lk2 : Nat → Nat} {nf : Nat} {fc fc2 : Nat → Nat} {h : Nat} (H : reN nT u lk nf fc h) (hu : ∀ x, x < 80 → v x = u x) (h12 : nf ≤ 12) (e : ∀ t, t < nT → lk2 t = lk t) (e2 : ∀ x, x < 6 * nf → fc2 x = fc x) : reN nT v lk2 nf fc2 h := by
  obtain ⟨h0, h6, h7, h8⟩ := H
  refine ⟨fun i hi => ?_, (hu 6 (by omega)).trans h6, (hu 7 (by omega)).trans h7, fun y hy => (hu _ (by omega)).trans ((h8 y hy).trans (e2 y hy).symm)⟩
  rw [hu i (by omega), h0 i hi]
  by_cases q : i < nT
  · rw [if_pos q, if_pos q, e i q]
  · rw [if_neg q, if_neg q]
