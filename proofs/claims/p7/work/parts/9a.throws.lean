/-! methods that throw, and helpers that catch -/
theorem zTh.warm {A : Nat → Prop} {U V : State} {H : Heap} (hW : U.WarmedH V.vm) (h : zTh A U H) : zTh A V H := by
  obtain ⟨h1, h2, ⟨a1, h3⟩, ⟨a2, h4⟩, ⟨a3, h5⟩, ⟨a4, h6⟩, ⟨a5, h7⟩, h8, h9, h10⟩ := h
  exact ⟨vx_Zq.moved hW.alike h1, vx_Zq.moved hW.alike h2, ⟨a1, vk_R.warm hW h3⟩, ⟨a2, vk_R.warm hW h4⟩, ⟨a3, vk_R.warm hW h5⟩, ⟨a4, vk_R.warm hW h6⟩, ⟨a5, vk_R.warm hW h7⟩, va_Nw.warmC hW h8, va_Nw.warmC hW h9, va_Nc.moved hW.alike h10⟩
theorem zTh.kept {A : Nat → Prop} {U : State} {H H1 : Heap} (h : zTh A U H) (hq : ∀ a : Nat, a < H.size → ¬ A a → H1[a]? = H[a]?) : zTh A U H1 := ⟨h.1.kept hq, h.2.1.kept hq, h.2.2⟩
theorem zTh.narrow {A B : Nat → Prop} {U : State} {H : Heap} (h : zTh A U H) (hAB : ∀ q, B q → A q) : zTh B U H := ⟨h.1.narrow hAB, h.2.1.narrow hAB, h.2.2⟩
/-- that the constructors of the exceptions' upper classes are declared there -/
def zds : List Cond := [.declares (Bundle.initS "java/lang/RuntimeException"), .declares (Bundle.initS "java/lang/Exception"), .declares (Bundle.initS "java/lang/Throwable")]
theorem zdecl {args : Array Value} {s : State} {x : MethodName} {bytes : ByteArray} {n : Nat} {ret : Option FieldType} (h1 : (Cond.instanceMethod x).before args s = true) (h2 : (Cond.code x bytes n ret).before args s = true) : (Cond.declares x).before args s = true := by
  obtain ⟨m, meth, hn, hm, hst, -⟩ := Cond.instanceMethod_spec h1
  obtain ⟨meth', c, k1, -, -, -, -, -, -, hsig⟩ := Cond.code_spec hn h2
  cases Option.some.inj (k1.symm.trans hm)
  show (Cond.declares x).holds args s none s [] = true
  simp only [Cond.holds, Cond.value, hn, Option.bind_some, hm, Option.map_some, hst, hsig]
  decide
set_option maxRecDepth 100000 in
theorem zds_ok {args : Array Value} {s : State} (hts : ∀ w ∈ zG, w.before args s = true) : ∀ x ∈ zds, x.before args s = true := by
  intro x hx
  unfold zds at hx
  simp only [List.mem_cons, List.not_mem_nil, or_false] at hx
  rcases hx with rfl | rfl | rfl
  · exact zdecl (hts _ (zmemT 731 rfl rfl)) (hts _ (zmemT 732 (x := .code (Bundle.initS "java/lang/RuntimeException") prog_15_method_2_code 2 none) rfl rfl))
  · exact zdecl (hts _ (zmemT 734 rfl rfl)) (hts _ (zmemT 735 (x := .code (Bundle.initS "java/lang/Exception") prog_10_method_2_code 2 none) rfl rfl))
  · exact zdecl (hts _ (zmemT 737 rfl rfl)) (hts _ (zmemT 738 (x := .code (Bundle.initS "java/lang/Throwable") prog_18_method_2_code 2 none) rfl rfl))
def zrx (d : Nat) : Room := { frames := d, cells := 1, slots := 6, locals := 64 * d }
def zXC (dC : Nat → ClassId) (dI : Nat → Nat → Nat) (dA : Nat → ClassId) (ad : Nat → Nat) (A : Nat → Prop) (X : String → zW → Prop) : String → State → State → Prop := fun E st t =>
  (∃ w' : zW, X E w' ∧ va_P (dC, dI) vwCl (zw dA ad w') t.heap ∧ zKx dC dI dA t ∧ va_D A (zw dA ad w')) ∧ va_F A st t
def zAx (X : String → zW → Prop) (Q : Option Value → zW → Prop) (n1 : Nat) (_ : Program) (_ : Launch) (_ : Env) (s : State) (_ : MethodId) (args : Array Value) (below : List Frame) (meth : Method) (c : Code) (dC : Nat → ClassId) (dI : Nat → Nat → Nat) (dA : Nat → ClassId) (ad0 : Nat → Nat) (A : Nat → Prop) (Z : State → Prop) : Prop :=
  Z = vx_MQ below (zQc dC dI dA ad0 A n1 false Q) (zXC dC dI dA ad0 A X) args s 1 6 A ∧ zTh A s s.heap ∧ meth.locks = false ∧ ∀ x ∈ c.exceptionTable.toList, False
abbrev zMx (d : Nat) (z : zMt) (X : String → zW → Prop) (Q : Option Value → zW → Prop) (n1 : Nat) : zM := (z.1.cls, z.2.1, z.2.2.1, false, zrx d, z.2.2.2.1, zAx X Q n1)
def zPt (dC : Nat → ClassId) (dI : Nat → Nat → Nat) (dA : Nat → ClassId) (ad : Nat → Nat) (as : List Value) (w : zW) (sz : Nat) : Array Value → State → Prop := va_Pc (as.map (zv ad)) (fun U => U.heap.size = sz ∧ va_P (dC, dI) vwCl (zw dA ad w) U.heap ∧ zKx dC dI dA U ∧ va_D (fun _ => True) (zw dA ad w) ∧ zTh (va_A (zw dA ad w) sz) U U.heap)
theorem zblindT (dC : Nat → ClassId) (dI : Nat → Nat → Nat) (dA : Nat → ClassId) (ad : Nat → Nat) (as : List Value) (w : zW) (sz : Nat) : FrameBlind (zPt dC dI dA ad as w sz) := fun a U g mk q => by
  obtain ⟨q0, q1, qP, qK, qD, qT⟩ := q
  exact ⟨q0, q1, qP, zKx.moved (u := U) (U := U.calling g mk a) (Vm.Alike.refl U.vm) qK, qD, zTh.warm (U := U) (V := U.calling g mk a) (State.WarmedH.refl U) qT⟩
/-- a contract of a method that returns (Q) or throws (X) -/
def zKt (d : Nat) (z : zMt) (as : List Value) (w : zW) (Q : Option Value → zW → Prop) (X : String → zW → Prop) : Prop :=
  ∀ (l0 : Launch), l0.stackTraces = false → ∀ (dC : Nat → ClassId) (dI : Nat → Nat → Nat) (dA : Nat → ClassId) (ad : Nat → Nat) (sz : Nat), vx_Met l0 z.1 (zws z) (zrx d) (zPt dC dI dA ad as w sz) (zQc dC dI dA ad (va_A (zw dA ad w) sz) w.length false Q) (zXC dC dI dA ad (va_A (zw dA ad w) sz) X) 1 6 (va_A (zw dA ad w) sz)
set_option maxHeartbeats 1000000 in
theorem zKt_of {d : Nat} {z : zMt} {as : List Value} {w : zW} {Q : Option Value → zW → Prop} {X : String → zW → Prop} (hy : plainName z.1.cls = true) (hn : Nat.ble (lg_sl as).length z.2.2.1 = true) (h : zV (zMx d z X Q w.length) false w.length 0 0 0 (lv_args 0 as) [] w Q) : zKt d z as w Q X := by
  intro l0 h9t dC dI dA ad sz
  refine vx_ofW (cc := z.2.1) (maxL := z.2.2.1) (ret := z.2.2.2.1) hy rfl ?_
  intro p e s m args below meth c s₁ B hml htab hv
  obtain ⟨rfl, hsz, hP, hK, hD0, hTh⟩ := hv
  have hts := atoms_spec (ws := zws z) B.pre
  have hown : s.vm.findClass z.1.cls = some m.cls := findClass_of_methodNamed B.named
  subst hsz
  have hD := hD0.self (sz := s.heap.size)
  have hA : ∀ q : Nat, s.heap.size ≤ q → va_A (zw dA ad w) s.heap.size q := fun q h => Or.inr h
  have hl := lv_entry (as.map (zv ad)) (n := z.2.2.1) (by rw [zsl]; exact Nat.le_of_ble_eq_true hn)
  rw [lg_entry_eq]
  generalize (lg_sl (as.map (zv ad)) ++ List.replicate (z.2.2.1 - (lg_sl (as.map (zv ad))).length) Slot.unset).toArray = ls at hl ⊢
  rw [zargs] at hl
  have hlk : meth.locks = false := B.notSynchronized
  have hr := B.returns
  refine h p l0 e s m (as.map (zv ad)).toArray below meth c dC dI dA ad (va_A (zw dA ad w) s.heap.size) (vx_MQ below (zQc dC dI dA ad (va_A (zw dA ad w) s.heap.size) w.length false Q) (zXC dC dI dA ad (va_A (zw dA ad w) s.heap.size) X) (as.map (zv ad)).toArray s 1 6 (va_A (zw dA ad w) s.heap.size)) h9t ⟨B.exec, B.bytes, hml, hown, fun x hx => hts x (List.mem_cons_of_mem _ hx), hK, hA, (fun hi => by cases hi), rfl, hTh, hlk, htab⟩ ?_ ad s.heap [] ls ⟨fun _ => rfl, fun _ _ => rfl, hP, hD, va_S.rf⟩ hl
  intro ad' H locs kc ks pc ls' v w' hrel hqq hkc hks hrt
  refine W.widen (k := 1) (n := 6) hkc hks ?_
  refine vx_ret ?_
  have fin : ∀ t : State, t.heap = H → s.WarmedH t.vm → zQc dC dI dA ad (va_A (zw dA ad w) s.heap.size) w.length false Q (as.map (zv ad)).toArray s (.returned (v.map (zv ad'))) t := fun t ht hW =>
    ⟨⟨v, w', ad', rfl, hqq, hrel.1, hrel.2.1, by rw [ht]; exact hrel.2.2.1, zKx.moved hW.alike hK, hrel.2.2.2.1⟩, hrel.2.2.2.2.F ht⟩
  match v, hrt, fin with
  | none, hrt, fin => exact W.vret B.exec B.bytes (hr.trans hrt.1) fin hrel.2.2.2.2.2.2 hrt.2 hlk
  | some (.int x), hrt, fin =>
    rcases hrt with ⟨h1 | ⟨h1, h2⟩, h3⟩
    · exact W.iret B.exec B.bytes (hr.trans h1) fin hrel.2.2.2.2.2.2 h3 hlk
    · exact W.zret (ty := .boolean) B.exec B.bytes (hr.trans h1) (by rcases h2 with rfl | rfl <;> decide +kernel) fin hrel.2.2.2.2.2.2 h3 hlk
  | some (.long x), hrt, fin => exact W.lret B.exec B.bytes (hr.trans hrt.1) fin hrel.2.2.2.2.2.2 hrt.2 hlk
set_option maxHeartbeats 1000000 in
theorem zv_throwS {d : Nat} {z : zMt} {X : String → zW → Prop} {Q Q0 : Option Value → zW → Prop} {n0 n1 pc : Nat} {l : zL} {w : zW} {E text : String} {names : List String} {ik is ic : Nat} (d0 : decode z.2.1 pc = .ok (.new ik, 3)) (d3 : decode z.2.1 (pc + 3) = .ok (.dup, 1)) (d4 : decode z.2.1 (pc + 4) = .ok (.ldc is, 2)) (d6 : decode z.2.1 (pc + 6) = .ok (.invokespecial ic, 3)) (d9 : decode z.2.1 (pc + 9) = .ok (.athrow, 1))
    (hf : Bundle.fit E = true ∧ ∀ n ∈ names, Bundle.fit n = true) (hk : Cond.classLink z.1.cls ik E ∈ zG ∧ Cond.initialized E ∈ zG) (hat : ∀ x ∈ vx_atS z.1.cls ic E names, x ∈ zG ∨ x = .castable E E ∨ x ∈ zds) (hg : ∀ x ∈ Cond.classLink z.1.cls ik E :: Cond.initialized E :: vx_atS z.1.cls ic E names, vx_ot x = true)
    (hs : ∀ A U H, zTh A U H → (∃ a, vk_R z.1.cls is text a U) ∧ va_Nw (.castable E E) U) (hR : names.length + 3 < d ∧ 0 + (13 * (names.length + 1) + 43) ≤ 64 * d) (hX : X E w) : zV (zMx d z X Q0 n1) false n0 0 0 pc l [] w Q := by
  intro p l0 e s m args below meth c dC dI dA ad0 A Z h9t hctx hfin ad H locs ls hrel hl
  obtain ⟨hx, hb, hml, hown, hts, hKc, hA, hxn, hZ, hTh, hlk, htab⟩ := hctx
  subst hZ
  obtain ⟨e1, e2, hP, hD, hS⟩ := hrel
  have ea := e1 rfl
  subst ea
  obtain ⟨⟨sa, hstr⟩, hca⟩ := hs A s s.heap hTh
  refine vx_throwS (cc := z.2.1) (own := z.1.cls) (cls := E) (text := text) (names := names) (ik := ik) (is := is) (ic := ic) (A := A) (sa := sa) (rest := []) hx hb h9t hown hf.1 hf.2 (hts _ hk.1) (hts _ hk.2) hstr (fun x q => ?_) hg hTh.1 hTh.2.1 hS (hl.1.trans hml.symm) d0 d3 d4 d6 d9 (fun x q => absurd (htab x q) id) hR.1 hR.2 (Nat.le_refl 1) (Nat.le_refl 6) hlk ?_ hS.2.2 (Nat.le_refl 1) (Nat.le_refl 6)
  · rcases hat x q with h | rfl | h
    · exact hts _ h
    · exact va_Nw.use (A := args) rfl hca
    · exact zds_ok hts x h
  · intro t hal hsz hq
    exact ⟨⟨w, hX, va_P.kept hP (fun k q hk => hq q.1 (vx_lt hP hk)), zKx.moved hal hKc, hD⟩, Nat.le_trans hS.1 hsz, fun q h1 h2 => (hq q (Nat.lt_of_lt_of_le h1 hS.1)).trans (hS.2.1 q h1 h2)⟩
set_option maxHeartbeats 1000000 in
theorem zv_throwSW {d : Nat} {z : zMt} {X : String → zW → Prop} {Q Q0 : Option Value → zW → Prop} {n0 n1 pc : Nat} {l : zL} {w : zW} {E text : String} {names : List String} {ik is ic : Nat} (d0 : decode z.2.1 pc = .ok (.new ik, 3)) (d3 : decode z.2.1 (pc + 3) = .ok (.dup, 1)) (d4 : decode z.2.1 (pc + 4) = .ok (.ldc_w is, 3)) (d6 : decode z.2.1 (pc + 7) = .ok (.invokespecial ic, 3)) (d9 : decode z.2.1 (pc + 10) = .ok (.athrow, 1))
    (hf : Bundle.fit E = true ∧ ∀ n ∈ names, Bundle.fit n = true) (hk : Cond.classLink z.1.cls ik E ∈ zG ∧ Cond.initialized E ∈ zG) (hat : ∀ x ∈ vx_atS z.1.cls ic E names, x ∈ zG ∨ x = .castable E E ∨ x ∈ zds) (hg : ∀ x ∈ Cond.classLink z.1.cls ik E :: Cond.initialized E :: vx_atS z.1.cls ic E names, vx_ot x = true)
    (hs : ∀ A U H, zTh A U H → (∃ a, vk_R z.1.cls is text a U) ∧ va_Nw (.castable E E) U) (hR : names.length + 3 < d ∧ 0 + (13 * (names.length + 1) + 43) ≤ 64 * d) (hX : X E w) : zV (zMx d z X Q0 n1) false n0 0 0 pc l [] w Q := by
  intro p l0 e s m args below meth c dC dI dA ad0 A Z h9t hctx hfin ad H locs ls hrel hl
  obtain ⟨hx, hb, hml, hown, hts, hKc, hA, hxn, hZ, hTh, hlk, htab⟩ := hctx
  subst hZ
  obtain ⟨e1, e2, hP, hD, hS⟩ := hrel
  have ea := e1 rfl
  subst ea
  obtain ⟨⟨sa, hstr⟩, hca⟩ := hs A s s.heap hTh
  refine vx_throwSW (cc := z.2.1) (own := z.1.cls) (cls := E) (text := text) (names := names) (ik := ik) (is := is) (ic := ic) (A := A) (sa := sa) (rest := []) hx hb h9t hown hf.1 hf.2 (hts _ hk.1) (hts _ hk.2) hstr (fun x q => ?_) hg hTh.1 hTh.2.1 hS (hl.1.trans hml.symm) d0 d3 d4 d6 d9 (fun x q => absurd (htab x q) id) hR.1 hR.2 (Nat.le_refl 1) (Nat.le_refl 6) hlk ?_ hS.2.2 (Nat.le_refl 1) (Nat.le_refl 6)
  · rcases hat x q with h | rfl | h
    · exact hts _ h
    · exact va_Nw.use (A := args) rfl hca
    · exact zds_ok hts x h
  · intro t hal hsz hq
    exact ⟨⟨w, hX, va_P.kept hP (fun k q hk => hq q.1 (vx_lt hP hk)), zKx.moved hal hKc, hD⟩, Nat.le_trans hS.1 hsz, fun q h1 h2 => (hq q (Nat.lt_of_lt_of_le h1 hS.1)).trans (hS.2.1 q h1 h2)⟩
/-- a helper with handlers -/
abbrev zMh (d : Nat) (z : zMt) (hh : List (Nat × Nat × Nat × Nat)) : zM := (z.1.cls, z.2.1, z.2.2.1, false, zrx d, z.2.2.2.1, fun _ _ _ s _ _ _ _ c _ _ _ _ A _ => zTh A s s.heap ∧ c.exceptionTable.toList = tableOf hh)
def zKh (d : Nat) (z : zMt) (hh : List (Nat × Nat × Nat × Nat)) (as : List Value) (w : zW) (Q : Option Value → zW → Prop) : Prop :=
  ∀ (l0 : Launch), l0.stackTraces = false → ∀ (dC : Nat → ClassId) (dI : Nat → Nat → Nat) (dA : Nat → ClassId) (ad : Nat → Nat) (sz : Nat), vx_Met l0 z.1 (Cond.codeWith z.1 z.2.1 z.2.2.1 z.2.2.2.1 hh :: zG) (zrx d) (zPt dC dI dA ad as w sz) (zQc dC dI dA ad (va_A (zw dA ad w) sz) w.length false Q) (fun _ _ _ => False) 1 6 (va_A (zw dA ad w) sz)
set_option maxHeartbeats 1000000 in
theorem zKh_of {d : Nat} {z : zMt} {hh : List (Nat × Nat × Nat × Nat)} {as : List Value} {w : zW} {Q : Option Value → zW → Prop} (hy : plainName z.1.cls = true) (hn : Nat.ble (lg_sl as).length z.2.2.1 = true) (h : zV (zMh d z hh) false w.length 0 0 0 (lv_args 0 as) [] w Q) : zKh d z hh as w Q := by
  intro l0 h9t dC dI dA ad sz
  refine vx_ofWH (cc := z.2.1) (maxL := z.2.2.1) (ret := z.2.2.2.1) (hh := hh) hy rfl ?_
  intro p e s m args below meth c s₁ B hml hv
  obtain ⟨rfl, hsz, hP, hK, hD0, hTh⟩ := hv
  have hts := atoms_spec (ws := Cond.codeWith z.1 z.2.1 z.2.2.1 z.2.2.2.1 hh :: zG) B.pre
  have htb := vx_table (x := z.1) B (hts _ List.mem_cons_self)
  have hown : s.vm.findClass z.1.cls = some m.cls := findClass_of_methodNamed B.named
  subst hsz
  have hD := hD0.self (sz := s.heap.size)
  have hA : ∀ q : Nat, s.heap.size ≤ q → va_A (zw dA ad w) s.heap.size q := fun q h => Or.inr h
  have hl := lv_entry (as.map (zv ad)) (n := z.2.2.1) (by rw [zsl]; exact Nat.le_of_ble_eq_true hn)
  rw [lg_entry_eq]
  generalize (lg_sl (as.map (zv ad)) ++ List.replicate (z.2.2.1 - (lg_sl (as.map (zv ad))).length) Slot.unset).toArray = ls at hl ⊢
  rw [zargs] at hl
  have hlk : meth.locks = false := B.notSynchronized
  have hr := B.returns
  refine h p l0 e s m (as.map (zv ad)).toArray below meth c dC dI dA ad (va_A (zw dA ad w) s.heap.size) (vx_MQ below (zQc dC dI dA ad (va_A (zw dA ad w) s.heap.size) w.length false Q) (fun _ _ _ => False) (as.map (zv ad)).toArray s 1 6 (va_A (zw dA ad w) s.heap.size)) h9t ⟨B.exec, B.bytes, hml, hown, fun x hx => hts x (List.mem_cons_of_mem _ hx), hK, hA, (fun hi => by cases hi), hTh, htb⟩ ?_ ad s.heap [] ls ⟨fun _ => rfl, fun _ _ => rfl, hP, hD, va_S.rf⟩ hl
  intro ad' H locs kc ks pc ls' v w' hrel hqq hkc hks hrt
  refine W.widen (k := 1) (n := 6) hkc hks ?_
  refine vx_ret ?_
  have fin : ∀ t : State, t.heap = H → s.WarmedH t.vm → zQc dC dI dA ad (va_A (zw dA ad w) s.heap.size) w.length false Q (as.map (zv ad)).toArray s (.returned (v.map (zv ad'))) t := fun t ht hW =>
    ⟨⟨v, w', ad', rfl, hqq, hrel.1, hrel.2.1, by rw [ht]; exact hrel.2.2.1, zKx.moved hW.alike hK, hrel.2.2.2.1⟩, hrel.2.2.2.2.F ht⟩
  match v, hrt, fin with
  | none, hrt, fin => exact W.vret B.exec B.bytes (hr.trans hrt.1) fin hrel.2.2.2.2.2.2 hrt.2 hlk
  | some (.int x), hrt, fin =>
    rcases hrt with ⟨h1 | ⟨h1, h2⟩, h3⟩
    · exact W.iret B.exec B.bytes (hr.trans h1) fin hrel.2.2.2.2.2.2 h3 hlk
    · exact W.zret (ty := .boolean) B.exec B.bytes (hr.trans h1) (by rcases h2 with rfl | rfl <;> decide +kernel) fin hrel.2.2.2.2.2.2 h3 hlk
  | some (.long x), hrt, fin => exact W.lret B.exec B.bytes (hr.trans hrt.1) fin hrel.2.2.2.2.2.2 hrt.2 hlk
/-- what a handler's row owes: it takes an E that is thrown at pc, the rows ahead of it don't; it stores it in local i and goes on at nx -/
def zHd (own : String) (cc : ByteArray) (hh : List (Nat × Nat × Nat × Nat)) (pc : Nat) (E : String) (i nx nL : Nat) : Prop :=
  ∃ (pre : List ExceptionTableEntry) (x : ExceptionTableEntry) (suf : List ExceptionTableEntry) (name : String), tableOf hh = pre ++ x :: suf ∧
    (∀ y ∈ pre, covers y pc = false ∨ (y.catchType ≠ 0 ∧ ∃ nm : String, Cond.classLink own y.catchType nm ∈ zG ∧ ∀ A U H, zTh A U H → va_Nc E nm U)) ∧ covers x pc = true ∧ x.catchType ≠ 0 ∧ Cond.classLink own x.catchType name ∈ zG ∧ (∀ A U H, zTh A U H → va_Nw (.castable E name) U) ∧ i < nL ∧
    ((∃ k : Fin 4, (k : Nat) = i ∧ decode cc x.handlerPc = .ok (.astore_n k, 1) ∧ nx = x.handlerPc + 1) ∨ (decode cc x.handlerPc = .ok (.astore i, 2) ∧ nx = x.handlerPc + 2))
section ZCX
variable {d : Nat} {zh : zMt} {hh : List (Nat × Nat × Nat × Nat)} {n0 pc a b : Nat} {c0 : Int} {l : zL} {st : List Value} {w : zW} {Q : Option Value → zW → Prop} {tb : List zE}
set_option maxHeartbeats 2000000 in
/-- a call of a method that may throw, inside a helper that catches it -/
theorem zv_callX (ok : zTb (zMh d zh hh) tb) {idx : Nat} (hlook : zlook tb pc = some (.invokevirtual idx, pc + 3, a, b, c0)) {z : zMt} (hz : zms[a]? = some z) {As rest : List Value} {o dd : Nat} {Qc : Option Value → zW → Prop} {X : String → zW → Prop}
    (hst : st = As.reverse ++ .ref o :: rest) (hn : As.length = b) (ha : Nat.ble 9000 a = false) {ci : Nat} {fs : List Value} {r0 : vw_C} (ho : w[o]? = some (zO ci fs)) (hci : vwCl[ci]? = some r0) (hcl : r0.1 = z.1.cls) (hcat : (rest.map fun v => v.category).sum ≤ 8)
    (hR : dd + 1 ≤ d ∧ 8 + (z.2.2.1 + 11) + 64 * dd ≤ 64 * d) (hK : zKt dd z (.ref o :: As) w Qc X)
    (kk : ∀ (r : Option Value) (w' : zW), Qc r w' → zV (zMh d zh hh) false n0 1 6 (pc + 3) l (r.toList ++ rest) w' Q)
    (kx : ∀ (E : String) (w' : zW), X E w' → ∃ i nx : Nat, zHd zh.1.cls zh.2.1 hh pc E i nx zh.2.2.1 ∧ zV (zMh d zh hh) false n0 1 6 nx (l.filter (fun q => !(q.1 == i) && !(q.1 + 1 == i && q.2.category == 2))) [] w' Q) : zV (zMh d zh hh) false n0 0 0 pc l st w Q := by
  intro p l0 e s m args below meth c dC dI dA ad0 A Z h9t hctx hfin ad H locs ls hrel hl
  obtain ⟨F, hF, ok⟩ := ok
  have h1 := ok _ (zlook_mem hlook)
  simp only [zgood, Bool.and_eq_true, decide_eq_true_eq, Nat.add_sub_cancel_left] at h1
  obtain ⟨hk0, hkd⟩ : (idx, a) ∈ F.2.1 ∧ (zms[a]?).map (fun z => z.2.2.2.2.2.2.2) = some (0, b) := by
    have h2 := h1.2
    simpa only [zgd, ha, Bool.false_or, Bool.and_eq_true, decide_eq_true_eq] using h2
  obtain ⟨z', hz', k1⟩ := hF.2.1 _ hk0
  rw [show zms[a]? = some z' from hz'] at hz
  cases hz
  rw [show zms[a]? = some z from hz'] at hkd
  have hkd : z.2.2.2.2.2.2.2 = _ := Option.some.inj hkd
  obtain ⟨hc, ⟨k5, k6, k7⟩, k4, m0, m1, m2⟩ := zms_ok z (List.mem_of_getElem? hz')
  have hkk : z.2.2.2.2.2.2.2.1 = 0 := by rw [hkd]
  have hnn : z.2.2.2.2.2.2.2.2 = b := by rw [hkd]
  rw [hnn] at k7
  obtain ⟨k2, k3⟩ := m0 hkk
  obtain ⟨hx, hb, hml, hown, hts, hKc, hA, hin, hTh, htb⟩ := id hctx
  obtain ⟨e1, e2, hP, hD, hS⟩ := id hrel
  have hM := hK l0 h9t dC dI dA ad H.size
  subst hst
  subst hn
  have hF9 : ∀ q, va_A (zw dA ad w) H.size q → A q := fun q h => by
    rcases h with ⟨k, x, h⟩ | h
    · exact hD.2 k _ h
    · exact hA q (Nat.le_trans hS.1 h)
  have hThH : zTh (va_A (zw dA ad w) H.size) s H := (hTh.kept hS.2.1).narrow hF9
  have cw : CallW (zrx d) s args zh.1.cls z.1.cls idx z.1 z.2.1 z.2.2.1 z.2.2.2.1 (zws z) (zrx dd) 1 6 As.length :=
    ⟨callB_of As.length hts (zgoodIn z hc) rfl rfl rfl (hts _ k4) (hts _ k1) ⟨k5, k6, k7⟩ hR, hts _ k2, hts _ k3⟩
  have hp : PreV s H z.1.cls (ad o) (zPt dC dI dA ad (.ref o :: As) w H.size) (As.map (zv ad)) :=
    ⟨zblindT dC dI dA ad _ w H.size, hcl ▸ va_recv hKc.1 hP hci (zw_at ho), fun U hU hW => ⟨rfl, by rw [hU], by rw [hU]; exact hP, zKx.moved hW.alike hKc, hD.weaken (fun _ _ _ _ => trivial), by rw [hU]; exact zTh.warm hW hThH⟩⟩
  have hr := vx_runV (g := F0 m pc ls ((As.reverse ++ .ref o :: rest).map (zv ad))) (As := As.map (zv ad)) (rest := rest.map (zv ad)) (cells := 0) (slots := 0) (locs := locs) (e := e) (below := below) (meth := meth) ⟨hx, hb, hml, hown, hts⟩ hM cw hp rfl (by rw [List.length_map]) hl.1 (by show List.map (zv ad) (As.reverse ++ .ref o :: rest) = _; rw [List.map_append, List.map_reverse]; rfl) (lv_room (by rw [zcats]; exact hcat)) h1.1.1 ⟨by show 0 + 1 ≤ 1; omega, by show 0 + 6 ≤ 6; omega⟩
  intro T hT X9
  rcases hr T hT X9 with ⟨v, st₀, t, T', L, h0, X', hL, f1, f2, ⟨⟨r, w', ad', hv, hq, hal, had, hP1, hK1, hD1⟩, hz1, hk1⟩, sts⟩ | ⟨q9, st₀, t, T', L, E, ce, h0, X', hL, f1, f2, ⟨⟨w', hX, hP1, hK1, hD1⟩, hz1, hk1⟩, hce, hcv, hcls, sts⟩
  · cases hv
    rw [h0] at hz1 hk1
    have ea := hal rfl
    subst ea
    have hS1 : va_S A s.heap T'.heap (locs ++ L) := ⟨Nat.le_trans hS.1 (by rw [f1]; exact hz1), fun q h1 h2 => by rw [f1, hk1 q (Nat.lt_of_lt_of_le h1 hS.1) (fun z => h2 (hF9 q z))]; exact hS.2.1 q h1 h2, fun q hq => by
      rcases List.mem_append.mp hq with h | h
      · exact hS.2.2 q h
      · exact hF9 _ (hL q h)⟩
    have k9 := kk r w' hq p l0 e s m args below meth c dC dI dA ad0 A Z h9t hctx hfin ad' T'.heap (locs ++ L) ls ⟨e1, e2, by rw [f1]; exact hP1, hD1.weaken (fun _ _ _ h => hF9 _ h), hS1⟩ hl
    rw [List.map_append] at k9
    obtain ⟨t2, a1, b1⟩ := k9 T' rfl X'
    refine ⟨t2, sts t2 ?_, b1⟩
    cases r <;> exact a1
  · rw [h0] at hz1 hk1
    obtain ⟨i, nx, ⟨pre, x, suf, name, s1, s2, s3, s4, s5, s6, s7, s8⟩, k9⟩ := kx E w' hX
    have hS1 : va_S A s.heap T'.heap (locs ++ L) := ⟨Nat.le_trans hS.1 (by rw [f1]; exact hz1), fun q h1 h2 => by rw [f1, hk1 q (Nat.lt_of_lt_of_le h1 hS.1) (fun z => h2 (hF9 q z))]; exact hS.2.1 q h1 h2, fun q hq => by
      rcases List.mem_append.mp hq with h | h
      · exact hS.2.2 q h
      · exact hF9 _ (hL q h)⟩
    have k8 := k9 p l0 e s m args below meth c dC dI dA ad0 A Z h9t hctx hfin ad T'.heap (locs ++ L)
    have kst : ∀ ls' : Array Slot, lv_has ls' zh.2.2.1 ((i, .ref q9) :: (zl ad l).filter (fun q => !(q.1 == i) && !(q.1 + 1 == i && q.2.category == 2))) → W p l0 e (zrx d) s m args below meth c T'.heap (locs ++ L) 1 6 Z (F0 m nx ls' []) := fun ls' hl' =>
      k8 ls' ⟨e1, e2, by rw [f1]; exact hP1, hD1.weaken (fun _ _ _ h => hF9 _ h), hS1⟩ ⟨hl'.1, hl'.2.1, fun q hq => hl'.2.2 q (List.mem_cons_of_mem _ (by
        rw [zl_filter ad (fun a b => !(a == i) && !(a + 1 == i && b == 2)) l]
        exact hq))⟩
    have kw : W p l0 e (zrx d) s m args below meth c T'.heap (locs ++ L) 1 6 Z (F0 m x.handlerPc ls [.ref q9]) := by
      rcases s8 with ⟨k, hki, hdec, hnx⟩ | ⟨hdec, hnx⟩
      · subst hnx
        exact lv_astore_n hx hb hdec hki hl s7 rfl kst
      · subst hnx
        exact lv_astore hx hb hdec hl s7 rfl kst
    have kc := vx_catch (p := p) (l := l0) (e := e) (R := zrx d) (s := s) (m := m) (args := args) (below := below) (meth := meth) (c := c) (H := T'.heap) (locs := locs ++ L) (cells := 1) (slots := 6) (Q := Z) (pc := pc) (ls := ls) (rest := rest.map (zv ad)) (own := zh.1.cls) (name := name) (E := E) (ce := ce) (q := q9) hown pre x suf (htb.trans s1)
      (fun y hy => (s2 y hy).imp id (fun ⟨c1, nm, c2, c3⟩ => ⟨c1, nm, hts _ c2, c3 A s s.heap hTh⟩)) s3 s4 (hts _ s5) (va_Nw.use (A := args) rfl (s6 A s s.heap hTh)) (by rw [f1]; exact hce) hcv hcls kw
    obtain ⟨t2, a1, b1⟩ := kc T' rfl X'
    exact ⟨t2, sts.trans a1, b1⟩
end ZCX
section ZHP
variable {bb L : Nat} {xs : Nat → Int32} {al : Bool} {n0 kc ks pc a b : Nat} {c0 : Int} {l : zL} {st : List Value} {w : zW} {Q : Option Value → zW → Prop}
set_option maxHeartbeats 2000000 in
/-- the law calls a helper -/
theorem zv_help {idx : Nat} (hlook : zlook tL_law pc = some (.invokestatic idx, pc + 3, a, b, c0)) {z : zMt} {hh : List (Nat × Nat × Nat × Nat)} (hm : GoodIn zG (va_wsS RL idx z.1 (Cond.codeWith z.1 z.2.1 z.2.2.1 z.2.2.2.1 hh :: zG))) {nP : Nat} (hd : z.1.cls ≠ "java/lang/invoke/MethodHandle" ∧ z.1.cls ≠ "java/lang/invoke/VarHandle" ∧ (parseMethodDescriptor z.1.desc).map (fun d => d.parameters.length) = some nP) {As rest : List Value} {d : Nat} {Qc : Option Value → zW → Prop}
    (hst : st = As.reverse ++ rest) (hn : As.length = nP) (hcat : (rest.map fun v => v.category).sum ≤ 8) (hR : d + 1 ≤ room_1.frames ∧ 8 + (z.2.2.1 + 11) + 64 * d ≤ room_1.locals) (hf : kc + 1 ≤ room_1.cells ∧ ks + 6 ≤ room_1.slots)
    (hK : zKh d z hh As w Qc) (kk : ∀ (r : Option Value) (w' : zW), Qc r w' → zV (zLw bb L xs) al n0 (kc + 1) (ks + 6) (pc + 3) l (r.toList ++ rest) w' Q) : zV (zLw bb L xs) al n0 kc ks pc l st w Q := by
  intro p l0 e s m args below meth c dC dI dA ad0 A Z h9t hctx hfin ad H locs ls hrel hl
  have h1 := oL_law _ (zlook_mem hlook)
  simp only [zgood, Bool.and_eq_true, decide_eq_true_eq, Nat.add_sub_cancel_left] at h1
  obtain ⟨hx, hb, hml, hown, hts, hKc, hA, hin, hE1, hE2, hE3, hE4, hTh⟩ := id hctx
  obtain ⟨e1, e2, hP, hD, hS⟩ := id hrel
  have hM := hK l0 h9t dC dI dA ad H.size
  subst hst
  have hF9 : ∀ q, va_A (zw dA ad w) H.size q → A q := fun q h => by
    rcases h with ⟨k, x, h⟩ | h
    · exact hD.2 k _ h
    · exact hA q (Nat.le_trans hS.1 h)
  have hThH : zTh (va_A (zw dA ad w) H.size) s H := (hTh.kept hS.2.1).narrow hF9
  have cw := vx_cwSW (R := room_1) (s := s) (args := args) (own := RL) (index := idx) (maxL := z.2.2.1) (mc := 1) (ms := 6) (y := z.1) (bytes := z.2.1) (ret := z.2.2.2.1) (hh := hh) (rm := zrx d) nP hts hm rfl rfl rfl hd hR
  have hp : PreS s H (zPt dC dI dA ad As w H.size) (As.map (zv ad)) :=
    ⟨zblindT dC dI dA ad _ w H.size, fun U hU hW => ⟨rfl, by rw [hU], by rw [hU]; exact hP, zKx.moved hW.alike hKc, hD.weaken (fun _ _ _ _ => trivial), by rw [hU]; exact zTh.warm hW hThH⟩⟩
  have hr := vx_runSX (g := F0 m pc ls ((As.reverse ++ rest).map (zv ad))) (As := As.map (zv ad)) (rest := rest.map (zv ad)) (cells := kc) (slots := ks) (locs := locs) (e := e) (below := below) (meth := meth) (p := p) (m := m) (c := c) (s := s) (args := args) (Ts := zG) (own := RL) (cc := cL_law) (nL := 8) ⟨hx, hb, hml, hown, hts⟩ hM cw hp rfl (by rw [List.length_map]; exact hn) hl.1 (by show List.map (zv ad) (As.reverse ++ rest) = _; rw [List.map_append, List.map_reverse]) (lv_room (by rw [zcats]; exact hcat)) h1.1.1 hf
  intro T hT X9
  rcases hr T hT X9 with ⟨v, st₀, t, T', L9, h0, X', hL, f1, f2, ⟨⟨r, w', ad', hv, hq, hal, had, hP1, hK1, hD1⟩, hz1, hk1⟩, sts⟩ | ⟨q9, st₀, t, T', L9, E, ce, h0, X', hL, f1, f2, hX, hce, hcv, hcls, sts⟩
  · cases hv
    rw [h0] at hz1 hk1
    have ea := hal rfl
    subst ea
    have hS1 : va_S A s.heap T'.heap (locs ++ L9) := ⟨Nat.le_trans hS.1 (by rw [f1]; exact hz1), fun q h1 h2 => by rw [f1, hk1 q (Nat.lt_of_lt_of_le h1 hS.1) (fun z => h2 (hF9 q z))]; exact hS.2.1 q h1 h2, fun q hq => by
      rcases List.mem_append.mp hq with h | h
      · exact hS.2.2 q h
      · exact hF9 _ (hL q h)⟩
    have k9 := kk r w' hq p l0 e s m args below meth c dC dI dA ad0 A Z h9t hctx hfin ad' T'.heap (locs ++ L9) ls ⟨e1, e2, by rw [f1]; exact hP1, hD1.weaken (fun _ _ _ h => hF9 _ h), hS1⟩ hl
    rw [List.map_append] at k9
    obtain ⟨t2, a1, b1⟩ := k9 T' rfl X'
    refine ⟨t2, sts t2 ?_, b1⟩
    cases r <;> exact a1
  · exact hX.elim
end ZHP
