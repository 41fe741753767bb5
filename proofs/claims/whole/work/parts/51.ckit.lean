abbrev rmC (d mc ms : Nat) : Room := { frames := d, cells := mc, slots := ms, locals := 40 * d }
abbrev cP (D : va_G) (G : ClassId × ClassId × ClassId) (Z : State → Prop) (av : List Value) (wc : va_W) (H0 : Heap) : Array Value → State → Prop := va_Pc av (fun U => U.heap = H0 ∧ va_P D cls5 wc H0 ∧ va_D (fun _ => True) wc ∧ va_K D cls5 (tys3 G) U ∧ Z U)
abbrev cQv (D : va_G) (r : Nat) (wc : va_W) (w1 : (Nat → Nat) → va_W) (H0 : Heap) : Array Value → State → Outcome → State → Prop := va_Qv (fun u : Nat → Nat => u 0 = r) (fun u t => va_P D cls5 (w1 u) t.heap ∧ va_D (va_A wc H0.size) (w1 u)) (va_A wc H0.size)
/-- the words of nest mates' constructors that ThirstScales() calls -/
def ZN (U : State) : Prop := va_Nw (.methodLinkNest RX4 9 yX2_init "ThirstScales") U ∧ va_Nw (.methodLinkNest RX4 33 yX1_init "ThirstScales") U
theorem cP_blind {D : va_G} {G : ClassId × ClassId × ClassId} {Z : State → Prop} {av : List Value} {wc : va_W} {H0 : Heap} (hZ : ∀ (U : State) (g : JFrame) (mk : MethodId) (a : Array Value), Z U → Z (U.calling g mk a)) : FrameBlind (cP D G Z av wc H0) := fun a U g mk q => ⟨q.1, q.2.1, q.2.2.1, q.2.2.2.1, va_K.moved (u := U) (U := U.calling g mk a) (Vm.Alike.refl U.vm) q.2.2.2.2.1, hZ U g mk a q.2.2.2.2.2⟩
theorem ZN_blind (U : State) (g : JFrame) (mk : MethodId) (a : Array Value) (h : ZN U) : ZN (U.calling g mk a) := ⟨va_Nw.same rfl (u := U) rfl h.1, va_Nw.same rfl (u := U) rfl h.2⟩
theorem ZN_warm {s U : State} (hW : s.WarmedH U.vm) (h : ZN s) : ZN U := ⟨va_Nw.warmM hW h.1, va_Nw.warmM hW h.2⟩
section CTA
variable {l : Launch} {cc : ByteArray} {maxL d mc ms : Nat} {y : MethodName} {D : va_G} {G : ClassId × ClassId × ClassId} {Z : State → Prop} {wc : va_W} {av : List Value} {H0 : Heap}
theorem ct_start {Qc : Heap → Array Value → State → Outcome → State → Prop} (hy : plainName y.cls = true) (hle : (lg_sl av).length ≤ maxL) (hi : y.name = "<init>")
    (body : ∀ p e s m args below meth c, p.tables.exec = Jvm.exec → c.code = cc → meth.sig.returnType = none → (∀ w ∈ wM y cc maxL none, w.before args s = true) → s.vm.findClass y.cls = some m.cls → meth.locks = false → c.maxLocals = maxL → va_K D cls5 (tys3 G) s → ∀ A : Nat → Prop, A = va_A wc s.heap.size → (∀ q, s.heap.size ≤ q → A q) → s.heap = H0 → ∀ ls, lv_has ls maxL (lv_args 0 av) → ∀ H locs, va_P D cls5 wc H → va_D A wc → va_S A s.heap H locs → meth.name = "<init>" → Z s →
      W p l e (rmC d mc ms) s m args below meth c H locs 0 0 (MQ below (Qc s.heap) args s mc ms A) (F0 m 0 ls [])) : Met l y (wM y cc maxL none) (rmC d mc ms) (cP D G Z av wc H0) (Qc H0) mc ms (va_A wc H0.size) := by
  refine Met.ofW (cc := cc) (maxL := maxL) (ret := none) hy rfl ?_
  intro p e s m args below meth c s₁ B hml hv
  obtain ⟨rfl, hsz, hP, hD0, hK, hZ⟩ := hv
  subst hsz
  have hl := lv_entry av (n := maxL) hle
  rw [lg_entry_eq]
  exact body p e s m _ below meth c B.exec B.bytes B.returns (atoms_spec (ws := wM y cc maxL none) B.pre) (findClass_of_methodNamed B.named) B.notSynchronized hml hK _ rfl (fun q h => Or.inr h) rfl _ hl s.heap [] hP hD0.self va_S.rf ((name_of_methodNamed B.named B.method).1.trans hi) hZ
end CTA
section CTB
variable {p : Program} {l : Launch} {e : Env} {R : Room} {s : State} {m : MethodId} {args : Array Value} {below : List Frame} {meth : Method} {c : Code} {H : Heap} {locs : List Loc} {cells slots : Nat} {Q : State → Prop}
variable {Ts : List Cond} {cc bytes : ByteArray} {nL maxL idx n mc ms : Nat} {own host : String} {y : MethodName} {rm : Room} {D : va_G} {G : ClassId × ClassId × ClassId} {Z : State → Prop} {wx wc wr : va_W} {b : Addr} {As rest : List Value} {pc : Nat} {ls : Array Slot} {st0 : List Value} {A0 : Nat → Prop} {H0 : Heap} {lv : List (Nat × Value)}
theorem ct_pre (hZb : ∀ (U : State) (g : JFrame) (mk : MethodId) (a : Array Value), Z U → Z (U.calling g mk a)) (hZw : ∀ U : State, s.WarmedH U.vm → Z U) (hP : va_P D cls5 wx H) (hD : va_D A0 wx) (hK : va_K D cls5 (tys3 G) s) (is : List Nat) (hnd : va_nd is = true) (hs : is.map (fun i => wx[i]?) = wc.map some) : PreS s H (cP D G Z As wc H) As :=
  ⟨cP_blind hZb, fun U hU hW => ⟨rfl, hU, fun k' q' hk' => by
    have h1 : (wc.map some)[k']? = some (some q') := by rw [List.getElem?_map, hk']; rfl
    rw [← hs, List.getElem?_map] at h1
    cases hi : is[k']? with
    | none => rw [hi] at h1; cases h1
    | some i => rw [hi] at h1; exact hP i q' (by simpa using h1), (hD.sub is hnd hs).weaken (fun _ _ _ _ => trivial), va_K.moved hW.alike hK, hZw U hW⟩⟩
theorem ct_runZ {Qc : Array Value → State → Outcome → State → Prop} {free : Addr → Prop} (hZb : ∀ (U : State) (g : JFrame) (mk : MethodId) (a : Array Value), Z U → Z (U.calling g mk a)) (hZw : ∀ U : State, s.WarmedH U.vm → Z U) (hx : p.tables.exec = Jvm.exec) (hb : c.code = cc) (hml : c.maxLocals = nL) (hown : s.vm.findClass own = some m.cls) (hts : ∀ w ∈ Ts, w.before args s = true) (hG : Tg Ts)
    (hM : Met l y (wM y bytes maxL none) rm (cP D G Z (.ref b :: As) wc H) Qc mc ms free) (lk : LkI own idx y bytes maxL n) (hR : rm.cells = mc ∧ rm.slots = ms ∧ rm.frames + 1 ≤ R.frames ∧ 8 + (maxL + 11) + rm.locals ≤ R.locals)
    (hP : va_P D cls5 wx H) (hD : va_D A0 wx) (hK : va_K D cls5 (tys3 G) s) (is : List Nat) (hnd : va_nd is = true) (hs : is.map (fun i => wx[i]?) = wc.map some)
    (hn : As.length = n) (hl : lv_has ls nL lv) (hst : st0 = As.reverse ++ .ref b :: rest) (hrest : (rest.map fun v => v.category).sum ≤ 8) (hdg : decode cc pc = .ok (.invokespecial idx, 3)) (hcs : cells + mc ≤ R.cells ∧ slots + ms ≤ R.slots) : va_Run p l e R s m args below meth c H locs cells slots mc ms (F0 m pc ls st0) rest (Qc (Value.ref b :: As).toArray) free :=
  va_runI ⟨hx, hb, hml, hown, hts⟩ hM (cwIW hts hG lk hR) (ct_pre hZb hZw hP hD hK is hnd hs) rfl hn hl.1 hst (lv_room hrest) hdg hcs
theorem ct_runI {Qc : Array Value → State → Outcome → State → Prop} {free : Addr → Prop} (hx : p.tables.exec = Jvm.exec) (hb : c.code = cc) (hml : c.maxLocals = nL) (hown : s.vm.findClass own = some m.cls) (hts : ∀ w ∈ Ts, w.before args s = true) (hG : Tg Ts)
    (hM : Met l y (wM y bytes maxL none) rm (cP D G (fun _ => True) (.ref b :: As) wc H) Qc mc ms free) (lk : LkI own idx y bytes maxL n) (hR : rm.cells = mc ∧ rm.slots = ms ∧ rm.frames + 1 ≤ R.frames ∧ 8 + (maxL + 11) + rm.locals ≤ R.locals)
    (hP : va_P D cls5 wx H) (hD : va_D A0 wx) (hK : va_K D cls5 (tys3 G) s) (is : List Nat) (hnd : va_nd is = true) (hs : is.map (fun i => wx[i]?) = wc.map some)
    (hn : As.length = n) (hl : lv_has ls nL lv) (hst : st0 = As.reverse ++ .ref b :: rest) (hrest : (rest.map fun v => v.category).sum ≤ 8) (hdg : decode cc pc = .ok (.invokespecial idx, 3)) (hcs : cells + mc ≤ R.cells ∧ slots + ms ≤ R.slots) : va_Run p l e R s m args below meth c H locs cells slots mc ms (F0 m pc ls st0) rest (Qc (Value.ref b :: As).toArray) free :=
  ct_runZ (fun _ _ _ _ _ => trivial) (fun _ _ => trivial) hx hb hml hown hts hG hM lk hR hP hD hK is hnd hs hn hl hst hrest hdg hcs
theorem ct_runIN {Qc : Array Value → State → Outcome → State → Prop} {free : Addr → Prop} (hx : p.tables.exec = Jvm.exec) (hb : c.code = cc) (hml : c.maxLocals = nL) (hown : s.vm.findClass own = some m.cls) (hts : ∀ w ∈ Ts, w.before args s = true) (hG : Tg Ts)
    (hM : Met l y (wM y bytes maxL none) rm (cP D G (fun _ => True) (.ref b :: As) wc H) Qc mc ms free) (hc : Cond.code y bytes maxL none ∈ WT) (hN : va_Nw (.methodLinkNest own idx y host) s) (hI : Cond.initialized y.cls ∈ WT) (hM2 : Cond.instanceMethod y ∈ WT) (hi : y.name = "<init>") (hd : Yd y n) (hR : rm.cells = mc ∧ rm.slots = ms ∧ rm.frames + 1 ≤ R.frames ∧ 8 + (maxL + 11) + rm.locals ≤ R.locals)
    (hP : va_P D cls5 wx H) (hD : va_D A0 wx) (hK : va_K D cls5 (tys3 G) s) (is : List Nat) (hnd : va_nd is = true) (hs : is.map (fun i => wx[i]?) = wc.map some)
    (hn : As.length = n) (hl : lv_has ls nL lv) (hst : st0 = As.reverse ++ .ref b :: rest) (hrest : (rest.map fun v => v.category).sum ≤ 8) (hdg : decode cc pc = .ok (.invokespecial idx, 3)) (hcs : cells + mc ≤ R.cells ∧ slots + ms ≤ R.slots) : va_Run p l e R s m args below meth c H locs cells slots mc ms (F0 m pc ls st0) rest (Qc (Value.ref b :: As).toArray) free := by
  have g := hG _ _ _ _ hc
  have t : ∀ w ∈ WT, w.before args s = true := fun w h => hts w (g w (List.mem_cons_of_mem _ h)).1
  exact va_runIN ⟨hx, hb, hml, hown, hts⟩ hM ⟨va_cnB n hts g rfl hR.1 hR.2.1 hN (t _ hI) ⟨hd.1.1, hd.1.2, hd.2⟩ ⟨hR.2.2.1, hR.2.2.2⟩, hi, t _ hM2⟩ (ct_pre (fun _ _ _ _ _ => trivial) (fun _ _ => trivial) hP hD hK is hnd hs) rfl hn hl.1 hst (lv_room hrest) hdg hcs
theorem ct_v {r : Nat} {w1 : (Nat → Nat) → va_W} {a : Array Value} (hr : va_Run p l e R s m args below meth c H locs cells slots mc ms (F0 m pc ls st0) rest (cQv D r wc w1 H a) (va_A wc H.size)) (hP : va_P D cls5 wx H) (hD : va_D A0 wx) (is isR : List Nat) (hs : is.map (fun i => wx[i]?) = wc.map some) (hR : isR.map (fun i => wx[i]?) = wr.map some) (hn : va_nd isR = true) (hdis : ∀ i ∈ isR, i ∉ is) (hS : va_S A0 H0 H locs) (hA : ∀ q, H0.size ≤ q → A0 q)
    (kk : ∀ (u : Nat → Nat) (H1 : Heap) (locs1 : List Loc), u 0 = r → va_P D cls5 (wr ++ w1 u) H1 → va_D A0 (wr ++ w1 u) → va_S A0 H0 H1 locs1 → W p l e R s m args below meth c H1 locs1 (cells + mc) (slots + ms) Q (F0 m (pc + 3) ls rest)) : W p l e R s m args below meth c H locs cells slots Q (F0 m pc ls st0) :=
  have hF := va_free (wc := wc) hD hS hA is hs
  va_callv hr hS (fun q _ h => hF q h) hF (fun u t H1 locs1 ht hvm hp hb _ hk hS1 => by
    rw [ht] at hb
    obtain ⟨h1, h2⟩ := va_join hP hD is isR hs hR hn hdis hk hF hb.1 hb.2
    exact kk u H1 locs1 hp h1 h2 hS1)
theorem ct_newa (hx : p.tables.exec = Jvm.exec) (hb : c.code = cc) {atype : ArrayType} {ty : FieldType} {a0 : Nat → Int32} {N : Nat} (harr : (Cond.arrayClass (newarray.typeOf atype)).before args s = true) (hty : newarray.typeOf atype = ty) (hK : va_K D cls5 (tys3 G) s) (hP : va_P D cls5 wx H) (hD : va_D A0 wx) (hS : va_S A0 H0 H locs) (hA : ∀ q, H0.size ≤ q → A0 q) (t0 : Nat) {cA : ClassId} (ht : (tys3 G)[t0]? = some (cA, ty)) (hn : N < 2 ^ 31) (ha : ∀ cB : ClassId, vp_cell cB (N, .inl a0) = arrV cB N (fun _ => defaultValue ty)) (hra : ∀ cB : ClassId, va_RA s cB ty → s.vm.findClass ("[" ++ ty.toString) = some cB) (hbytes : N * componentBytes ty ≤ 536870912) (hcells : cells + 1 ≤ R.cells) (hslots : slots + N ≤ R.slots) (hdg : decode cc pc = .ok (.newarray atype, 2))
    (kk : ∀ (q : Nat) (H1 : Heap), va_P D cls5 (wx ++ [(q, .inl (cA, N, .inl a0))]) H1 → va_D A0 (wx ++ [(q, .inl (cA, N, .inl a0))]) → va_S A0 H0 H1 locs → W p l e R s m args below meth c H1 locs (cells + 1) (slots + N) Q (F0 m (pc + 2) ls (.ref q :: rest))) : W p l e R s m args below meth c H locs cells slots Q (F0 m pc ls (.int (nI N) :: rest)) :=
  va_newa (a0 := (N, .inl a0)) hx hb harr hty hK hP hD hS hA ha (nI_pos hn) (nI_clamp hn) hbytes hcells hslots hdg (fun q cB H1 hK1 h1 h2 h3 => by
    have e1 : cB = cA := Option.some.inj ((hra _ (hK1.2 3 _ rfl).2).symm.trans (hra _ (hK.2 t0 _ ht).2))
    subst e1
    exact kk q H1 h1 h2 h3)
theorem ct_vret {r : Nat} {w1 : (Nat → Nat) → va_W} (u : Nat → Nat) (hx : p.tables.exec = Jvm.exec) (hb : c.code = cc) (hr : meth.sig.returnType = none) (hlocks : meth.locks = false) (hAe : A0 = va_A wc s.heap.size) (hS : va_S A0 s.heap H locs) (hdg : decode cc pc = .ok (.return_, 1)) (hP : va_P D cls5 (w1 u) H) (hD : va_D A0 (w1 u)) (h0 : u 0 = r) : W p l e R s m args below meth c H locs mc ms (MQ below (cQv D r wc w1 s.heap) args s mc ms A0) (F0 m pc ls []) := by
  subst hAe
  exact W.vret hx hb hr (fun t ht _ => ⟨⟨u, rfl, h0, by show va_P D cls5 (w1 u) t.heap; rw [ht]; exact hP, hD⟩, hS.F ht⟩) hS.2.2 hdg hlocks
def uL (l : List Nat) : Nat → Nat := fun i => l.getD i 0
end CTB
