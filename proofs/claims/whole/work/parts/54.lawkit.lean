/-! THE CLAIM OUT OF ONE WALK OF THE LAW'S BODY. Your part is whole_start (and what it stands on); all else here is the same for every law, but numbers. -/
def R_law : String := "ThirstScalesLaw"
def lw_P (b : Addr) (xs : List Int32) (args : Array Value) (s : State) : Prop := args = #[.ref b] ∧ s.IntsAt b xs ∧ xs.length ≤ 3072 ∧ (Jvm.Cond.and given_1 narrow_1).before args s = true
def lw_Q (_ : Array Value) (s : State) (o : Outcome) (t : State) : Prop := o = .returned (some (.int 1)) ∧ Framed s o t [] 600000 7302250
def lw_Z (below : List Frame) (a : Array Value) (s : State) : State → Prop := fun t => ∃ o, t.status = .running ∧ Ended t below o ∧ lw_Q a s o t
/-- the law's own end, with 1 on the stack, nothing written that was there before, its room as the claim has it -/
theorem lw_ret {p : Program} {l : Launch} {e : Env} {s : State} {m : MethodId} {below : List Frame} {meth : Method} {c : Code} {b : Nat} (hx : p.tables.exec = Jvm.exec) (hb : c.code = code) (hr : meth.sig.returnType = ret) (hlocks : meth.locks = false) {pc : Nat} {H : Heap} {ls : Array Slot} (hdg : decode code pc = .ok (.ireturn, 1)) : W p l e room_1 s m #[Value.ref b] below meth c H [] 600000 7302250 (lw_Z below #[Value.ref b] s) (F0 m pc ls [.int 1]) := by
  intro T hT X
  obtain ⟨fs, hret, hrun, hended, hW, hframe⟩ := X.leave (v := some (.int 1)) (hlocks := hlocks) (fun h => by rw [hr] at h; cases h)
  have hmeth' : T.vm.method? m = some meth := X.method'
  refine ⟨T.setFrames fs, ?_, .returned (some (.int 1)), hrun, hended, rfl, ⟨_, rfl⟩, hW, hframe⟩
  jvm_step X.here [X.here.top, hx, hb, hdg, hmeth', hr, ret, narrow_b1]
  (try refine ⟨rfl, ?_⟩); (try refine ⟨rfl, ?_⟩)
  first | (intro acts; rw [hret _ acts rfl rfl rfl]) | rw [hret _ _ rfl rfl rfl]
  exact Steps.refl _
/-- what holds at the law's entry: the machine, the code, the tables' words (any of lw_tbl by 'hts w (by decide +kernel)'), the script of L ints xs at the cell b, what the Statement gives of the start (any of its parts by flat_of_before) -/
def lw_At (p : Program) (s : State) (m : MethodId) (meth : Method) (c : Code) (b L : Nat) (xs : Nat → Int32) : Prop :=
  p.tables.exec = Jvm.exec ∧ c.code = code ∧ meth.sig.returnType = ret ∧ c.maxLocals = 4 ∧ s.vm.findClass R_law = some m.cls ∧ (∀ w ∈ lw_tbl, w.before #[Value.ref b] s = true) ∧ va_X b L xs s s.heap ∧ b < s.heap.size ∧ meth.locks = false ∧ (Jvm.Cond.and given_1 narrow_1).before #[Value.ref b] s = true

theorem wtL {w : Cond} (h : w ∈ WT) : w ∈ lw_tbl := (List.mem_filter.mp h).1
theorem lg_self (x : Int64) : lg_cmp x x = 0 := by
  unfold lg_cmp
  rw [if_neg (Int64.lt_irrefl), if_pos rfl]
/-- from any state of the loop (the call i comes next, q calls at most have been made) at this place, the law comes to its end -/
def LGo (p : Program) (l : Launch) (e : Env) (s : State) (m : MethodId) (sb : Nat) (below : List Frame) (meth : Method) (c : Code) (D : va_G) (G : ClassId × ClassId × ClassId) (A : Nat → Prop) (ad am : Nat → Nat) (i q pc : Nat) : Prop :=
  ∀ (n : Nat → Nat) (f : Nat → Nat → Nat) (k : Nat → Nat) (b : Nat → Bool) (v : Int32) (tr : Int64) (j : Nat → Nat) (fl : Int32) (hh : Bool) (g : Nat → Nat → Nat) (tx : Nat → Int32) (kp : Nat → Bool), LI n f k b q g tx kp → ∀ (H : Heap) (locs : List Loc), va_P D cls5 [(ad 0, .inr (3, [.ref (ad 1), .ref (ad 10), .ref (ad 12), .ref (ad 14), .ref (ad 16), .ref (ad 21), .ref (ad 26), .int (bI (b 1)), .int (bI (b 2)), .long (tr)])), (ad 1, .inr (1, [.ref (ad 2), .ref (ad 4), .ref (ad 6), .int (nI (k 0)), .int (nI (k 1)), .ref (ad 8), .int (bI (b 0)), .int (nI (k 2)), .int (nI (k 3)), .int (nI (k 4)), .int (v)])), (ad 2, .inr (2, [.ref (ad 3), .int (nI (n 0))])), (ad 3, .inl (G.1, 200, .inl (nF (f 0)))), (ad 4, .inr (2, [.ref (ad 5), .int (nI (n 1))])), (ad 5, .inl (G.1, 5, .inl (nF (f 1)))), (ad 6, .inr (2, [.ref (ad 7), .int (nI (n 2))])), (ad 7, .inl (G.1, 6, .inl (nF (f 2)))), (ad 8, .inr (2, [.ref (ad 9), .int (nI (n 3))])), (ad 9, .inl (G.1, 4, .inl (nF (f 3)))), (ad 10, .inr (2, [.ref (ad 11), .int (nI (n 4))])), (ad 11, .inl (G.1, 5, .inl (nF (f 4)))), (ad 12, .inr (2, [.ref (ad 13), .int (nI (n 5))])), (ad 13, .inl (G.1, 6, .inl (nF (f 5)))), (ad 14, .inr (2, [.ref (ad 15), .int (nI (4 * n 6))])), (ad 15, .inl (G.1, 32, .inl (nF (f 6)))), (ad 16, .inr (0, [.ref (ad 17), .ref (ad 19), .int (nI (k 5))])), (ad 17, .inr (2, [.ref (ad 18), .int (nI (n 7))])), (ad 18, .inl (G.1, 6, .inl (nF (f 7)))), (ad 19, .inr (2, [.ref (ad 20), .int (nI (6 * n 8))])), (ad 20, .inl (G.1, 72, .inl (nF (f 8)))), (ad 21, .inr (0, [.ref (ad 22), .ref (ad 24), .int (nI (k 6))])), (ad 22, .inr (2, [.ref (ad 23), .int (nI (n 9))])), (ad 23, .inl (G.1, 6, .inl (nF (f 9)))), (ad 24, .inr (2, [.ref (ad 25), .int (nI (6 * n 10))])), (ad 25, .inl (G.1, 72, .inl (nF (f 10)))), (ad 26, .inr (0, [.ref (ad 27), .ref (ad 29), .int (nI (k 7))])), (ad 27, .inr (2, [.ref (ad 28), .int (nI (n 11))])), (ad 28, .inl (G.1, 6, .inl (nF (f 11)))), (ad 29, .inr (2, [.ref (ad 30), .int (nI (6 * n 12))])), (ad 30, .inl (G.1, 72, .inl (nF (f 12)))), (am 0, .inr (4, [.long (tr), .ref (am 1), .int (nI (n 0)), .ref (am 2), .ref (am 3), .ref (am 4), .ref (am 5), .ref (am 6), .ref (am 7), .ref (am 8), .ref (am 9), .int (nI (j 1)), .int (nI (j 2)), .int (nI (j 3)), .int (nI (j 4)), .int (fl), .int (bI (hh)), .ref (am 10), .ref (am 11), .ref (am 12), .int (nI (n 6))])), (am 1, .inl (G.2.1, 200, .inl (tx))), (am 2, .inl (G.1, 2, .inl (nF (g 2)))), (am 3, .inl (G.1, 10, .inl (nF (g 3)))), (am 4, .inl (G.1, 2, .inl (nF (g 4)))), (am 5, .inl (G.1, 12, .inl (nF (g 5)))), (am 6, .inl (G.1, 12, .inl (nF (g 6)))), (am 7, .inl (G.1, 12, .inl (nF (g 7)))), (am 8, .inl (G.1, 12, .inl (nF (g 8)))), (am 9, .inl (G.1, 2, .inl (nF (g 9)))), (am 10, .inl (G.1, 240, .inl (nF (g 10)))), (am 11, .inl (G.2.2, 2, .inl (bF kp))), (am 12, .inl (G.1, 32, .inl (nF (g 12))))] H → va_D A [(ad 0, .inr (3, [.ref (ad 1), .ref (ad 10), .ref (ad 12), .ref (ad 14), .ref (ad 16), .ref (ad 21), .ref (ad 26), .int (bI (b 1)), .int (bI (b 2)), .long (tr)])), (ad 1, .inr (1, [.ref (ad 2), .ref (ad 4), .ref (ad 6), .int (nI (k 0)), .int (nI (k 1)), .ref (ad 8), .int (bI (b 0)), .int (nI (k 2)), .int (nI (k 3)), .int (nI (k 4)), .int (v)])), (ad 2, .inr (2, [.ref (ad 3), .int (nI (n 0))])), (ad 3, .inl (G.1, 200, .inl (nF (f 0)))), (ad 4, .inr (2, [.ref (ad 5), .int (nI (n 1))])), (ad 5, .inl (G.1, 5, .inl (nF (f 1)))), (ad 6, .inr (2, [.ref (ad 7), .int (nI (n 2))])), (ad 7, .inl (G.1, 6, .inl (nF (f 2)))), (ad 8, .inr (2, [.ref (ad 9), .int (nI (n 3))])), (ad 9, .inl (G.1, 4, .inl (nF (f 3)))), (ad 10, .inr (2, [.ref (ad 11), .int (nI (n 4))])), (ad 11, .inl (G.1, 5, .inl (nF (f 4)))), (ad 12, .inr (2, [.ref (ad 13), .int (nI (n 5))])), (ad 13, .inl (G.1, 6, .inl (nF (f 5)))), (ad 14, .inr (2, [.ref (ad 15), .int (nI (4 * n 6))])), (ad 15, .inl (G.1, 32, .inl (nF (f 6)))), (ad 16, .inr (0, [.ref (ad 17), .ref (ad 19), .int (nI (k 5))])), (ad 17, .inr (2, [.ref (ad 18), .int (nI (n 7))])), (ad 18, .inl (G.1, 6, .inl (nF (f 7)))), (ad 19, .inr (2, [.ref (ad 20), .int (nI (6 * n 8))])), (ad 20, .inl (G.1, 72, .inl (nF (f 8)))), (ad 21, .inr (0, [.ref (ad 22), .ref (ad 24), .int (nI (k 6))])), (ad 22, .inr (2, [.ref (ad 23), .int (nI (n 9))])), (ad 23, .inl (G.1, 6, .inl (nF (f 9)))), (ad 24, .inr (2, [.ref (ad 25), .int (nI (6 * n 10))])), (ad 25, .inl (G.1, 72, .inl (nF (f 10)))), (ad 26, .inr (0, [.ref (ad 27), .ref (ad 29), .int (nI (k 7))])), (ad 27, .inr (2, [.ref (ad 28), .int (nI (n 11))])), (ad 28, .inl (G.1, 6, .inl (nF (f 11)))), (ad 29, .inr (2, [.ref (ad 30), .int (nI (6 * n 12))])), (ad 30, .inl (G.1, 72, .inl (nF (f 12)))), (am 0, .inr (4, [.long (tr), .ref (am 1), .int (nI (n 0)), .ref (am 2), .ref (am 3), .ref (am 4), .ref (am 5), .ref (am 6), .ref (am 7), .ref (am 8), .ref (am 9), .int (nI (j 1)), .int (nI (j 2)), .int (nI (j 3)), .int (nI (j 4)), .int (fl), .int (bI (hh)), .ref (am 10), .ref (am 11), .ref (am 12), .int (nI (n 6))])), (am 1, .inl (G.2.1, 200, .inl (tx))), (am 2, .inl (G.1, 2, .inl (nF (g 2)))), (am 3, .inl (G.1, 10, .inl (nF (g 3)))), (am 4, .inl (G.1, 2, .inl (nF (g 4)))), (am 5, .inl (G.1, 12, .inl (nF (g 5)))), (am 6, .inl (G.1, 12, .inl (nF (g 6)))), (am 7, .inl (G.1, 12, .inl (nF (g 7)))), (am 8, .inl (G.1, 12, .inl (nF (g 8)))), (am 9, .inl (G.1, 2, .inl (nF (g 9)))), (am 10, .inl (G.1, 240, .inl (nF (g 10)))), (am 11, .inl (G.2.2, 2, .inl (bF kp))), (am 12, .inl (G.1, 32, .inl (nF (g 12))))] → va_S A s.heap H locs → ∀ ls : Array Slot, lv_has ls 4 [(0, .ref (sb)), (1, .ref (ad 0)), (2, .ref (am 0)), (3, .int (nI i))] → W p l e room_1 s m #[Value.ref sb] below meth c H locs 600000 7302250 (lw_Z below #[Value.ref sb] s) (F0 m pc ls [])

def tmS : Nat → Term := fun i => match i with
  | 0 => .string "ThirstScales$Reader" 114
  | 1 => .string "ThirstScales$Reader" 120
  | _ => .string "ThirstScales$Reader" 122
set_option maxRecDepth 100000 in
set_option maxHeartbeats 4000000 in
theorem lw_ZS {s : State} {sb : Nat} {A : Nat → Prop} (hts : ∀ w ∈ lw_tbl, w.before #[Value.ref sb] s = true) (hgv : (Jvm.Cond.and given_1 narrow_1).before #[Value.ref sb] s = true) (hA : ∀ a : Nat, a < s.heap.size → ¬ A a) : ∃ K : (Nat → Nat) × (Nat → Nat), ZS K A s s.heap := by
  have hs := flat_of_before _ hgv
  obtain ⟨adK, adV, h1, h2⟩ := vk_Sof (args := #[Value.ref sb]) (s := s) (N := 3) (tm := tmS) (len := lenW) (byt := bytW) (A := A) (by decide)
    (by intro i hi; rcases (show i = 0 ∨ i = 1 ∨ i = 2 by omega) with rfl | rfl | rfl <;> exact hs _ (by decide +kernel))
    (by intro i hi; rcases (show i = 0 ∨ i = 1 ∨ i = 2 by omega) with rfl | rfl | rfl <;> exact hs _ (by decide +kernel))
    (by intro i hi; rcases (show i = 0 ∨ i = 1 ∨ i = 2 by omega) with rfl | rfl | rfl <;> exact hs _ (by decide +kernel))
    (by intro i hi; rcases (show i = 0 ∨ i = 1 ∨ i = 2 by omega) with rfl | rfl | rfl <;> exact hs _ (by decide +kernel))
    (by
      intro i hi x hx
      rcases (show i = 0 ∨ i = 1 ∨ i = 2 by omega) with rfl | rfl | rfl
      · have hx : x < 4 := hx
        rcases (show x = 0 ∨ x = 1 ∨ x = 2 ∨ x = 3 by omega) with rfl | rfl | rfl | rfl <;> exact hs _ (by decide +kernel)
      · have hx : x < 6 := hx
        rcases (show x = 0 ∨ x = 1 ∨ x = 2 ∨ x = 3 ∨ x = 4 ∨ x = 5 by omega) with rfl | rfl | rfl | rfl | rfl | rfl <;> exact hs _ (by decide +kernel)
      · have hx : x < 4 := hx
        rcases (show x = 0 ∨ x = 1 ∨ x = 2 ∨ x = 3 by omega) with rfl | rfl | rfl | rfl <;> exact hs _ (by decide +kernel))
    (by
      intro i x hi hx hne
      rcases (show i = 0 ∨ i = 1 ∨ i = 2 by omega) with rfl | rfl | rfl <;> rcases (show x = 0 ∨ x = 1 ∨ x = 2 by omega) with rfl | rfl | rfl <;> first | exact absurd rfl hne | exact Or.inl (hs _ (by decide +kernel)) | exact Or.inr (hs _ (by decide +kernel)))
    hA
  refine ⟨(adK, adV), h1, ?_, ?_, vk_R.of (hts _ (List.mem_of_getElem? (i := 247) (by decide +kernel))) (h2 0 (by decide)), vk_R.of (hts _ (List.mem_of_getElem? (i := 300) (by decide +kernel))) (h2 1 (by decide)), vk_R.of (hts _ (List.mem_of_getElem? (i := 301) (by decide +kernel))) (h2 2 (by decide))⟩
  · exact va_Zof (hts _ (List.mem_of_getElem? (i := 261) (by decide +kernel))) (hts _ (wtL wt_58)) (va_eqi (hs _ (by decide +kernel))) hA
  · exact va_Zqof (hts _ (List.mem_of_getElem? (i := 277) (by decide +kernel))) (hts _ (wtL wt_60)) (hs _ (by decide +kernel)) hA

theorem kA_of {s : State} {args : Array Value} {ty : FieldType} (h : (Cond.arrayClass ty).before args s = true) : ∃ cA : ClassId, s.vm.findClass ("[" ++ ty.toString) = some cA ∧ ArrOfT s cA ty := by
  obtain ⟨cA, kA, comp, h1, h2, h3⟩ := Cond.arrayClass_spec h
  exact ⟨cA, h1, fun n z => ⟨fun k h => (by cases h), kA, h2, comp, h3⟩⟩
theorem lw_K {s : State} {sb : Nat} (hts : ∀ w ∈ lw_tbl, w.before #[Value.ref sb] s = true) : ∃ (D : va_G) (G : ClassId × ClassId × ClassId), va_K D cls5 (tys3 G) s := by
  obtain ⟨c1, i1, h1⟩ := u_known (C := RX1) (T := TX1) (N := 3) (n := 3) hts (fun w h => wtL ((by decide +kernel : ∀ w ∈ wsX10, w ∈ WT) w h)) (hts _ (wtL wt_136))
  obtain ⟨c2, i2, h2⟩ := u_known (C := RX2) (T := TX2) (N := 11) (n := 11) hts (fun w h => wtL ((by decide +kernel : ∀ w ∈ wsX20, w ∈ WT) w h)) (hts _ (wtL wt_72))
  obtain ⟨c3, i3, h3⟩ := u_known (C := RX3) (T := TX3) (N := 2) (n := 2) hts (fun w h => wtL ((by decide +kernel : ∀ w ∈ wsX30, w ∈ WT) w h)) (hts _ (wtL wt_78))
  obtain ⟨c4, i4, h4⟩ := u_known (C := RX4) (T := TX4) (N := 10) (n := 10) hts (fun w h => wtL ((by decide +kernel : ∀ w ∈ wsX40, w ∈ WT) w h)) (hts _ (wtL wt_64))
  obtain ⟨c5, i5, h5⟩ := u_known (C := RX5) (T := TX5) (N := 21) (n := 21) hts (fun w h => wtL ((by decide +kernel : ∀ w ∈ wsX50, w ∈ WT) w h)) (hts _ (wtL wt_595))
  obtain ⟨g1, a1, b1⟩ := kA_of (hts _ (wtL wt_93))
  obtain ⟨g2, a2, b2⟩ := kA_of (hts _ (wtL wt_350))
  obtain ⟨g3, a3, b3⟩ := kA_of (hts _ (wtL wt_664))
  refine ⟨(fun k => match k with | 0 => c1 | 1 => c2 | 2 => c3 | 3 => c4 | _ => c5, fun k => match k with | 0 => i1 | 1 => i2 | 2 => i3 | 3 => i4 | _ => i5), (g1, g2, g3), fun x q hq => ?_, fun x q hq => ?_⟩
  · match x, hq with
    | 0, hq => cases hq; exact h1
    | 1, hq => cases hq; exact h2
    | 2, hq => cases hq; exact h3
    | 3, hq => cases hq; exact h4
    | 4, hq => cases hq; exact h5
    | x + 5, hq => simp [cls5] at hq
  · match x, hq with
    | 0, hq => cases hq; exact ⟨b1, a1⟩
    | 1, hq => cases hq; exact ⟨b2, a2⟩
    | 2, hq => cases hq; exact ⟨b3, a3⟩
    | x + 3, hq => simp [tys3] at hq
