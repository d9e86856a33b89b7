section ZI
variable {M : zM} {al : Bool} {n0 kc ks pc nxt a b : Nat} {c0 : Int} {l : zL} {st : List Value} {w : zW} {Q : Option Value → zW → Prop} {tb : List zE}
/-- what a value list keeps when cells come -/
def zokv (n : Nat) : Value → Bool
  | .ref k => Nat.blt k n || Nat.ble zsent k
  | _ => true
theorem zokv_eq {n : Nat} {ad ad' : Nat → Nat} (h : ∀ k, (k < n ∨ zsent ≤ k) → ad' k = ad k) {v : Value} (hv : zokv n v = true) : zv ad' v = zv ad v := by
  cases v with
  | ref k =>
    simp only [zokv, Bool.or_eq_true] at hv
    show Value.ref (ad' k) = Value.ref (ad k)
    rw [h k (hv.elim (fun q => Or.inl (Nat.le_of_ble_eq_true q)) (fun q => Or.inr (Nat.le_of_ble_eq_true q)))]
  | _ => rfl
theorem zokv_map {n : Nat} {ad ad' : Nat → Nat} (h : ∀ k, (k < n ∨ zsent ≤ k) → ad' k = ad k) {r : List Value} (hr : r.all (zokv n) = true) : r.map (zv ad') = r.map (zv ad) :=
  List.map_congr_left fun v hv => zokv_eq h (List.all_eq_true.mp hr v hv)
theorem zokv_l {n : Nat} {ad ad' : Nat → Nat} (h : ∀ k, (k < n ∨ zsent ≤ k) → ad' k = ad k) {l : zL} (hr : l.all (fun q => zokv n q.2) = true) : zl ad' l = zl ad l :=
  List.map_congr_left fun q hq => by rw [zokv_eq h (List.all_eq_true.mp hr q hq)]
/-- behind a call: the callee makes no cells, or all references that the caller holds are of cells that were there -/
theorem zjoin {dC : Nat → ClassId} {dI : Nat → Nat → Nat} {dA : Nat → ClassId} {ad0 ad ad' : Nat → Nat} {A : Nat → Prop} {H0 H H1 : Heap} {locs locs1 : List Loc} {w w' : zW} {al' : Bool} {rest : List Value} {ls : Array Slot} {nL : Nat}
    (hrel : zrel dC dI dA ad0 ad A n0 al H0 H locs w) (hl : lv_has ls nL (zl ad l)) (hc : al' = false ∨ (al = true ∧ n0 ≤ w.length ∧ rest.all (zokv w.length) = true ∧ l.all (fun q => zokv w.length q.2) = true)) (hal : al' = false → ad' = ad) (had : ∀ k, (k < w.length ∨ zsent ≤ k) → ad' k = ad k) (hP : va_P (dC, dI) vwCl (zw dA ad' w') H1) (hD : va_D A (zw dA ad' w')) (hS : va_S A H0 H1 locs1) :
    zrel dC dI dA ad0 ad' A n0 al H0 H1 locs1 w' ∧ lv_has ls nL (zl ad' l) ∧ rest.map (zv ad') = rest.map (zv ad) := by
  rcases hc with hc | ⟨h1, h2, h3, h4⟩
  · have e := hal hc
    subst e
    exact ⟨⟨hrel.1, hrel.2.1, hP, hD, hS⟩, hl, rfl⟩
  · refine ⟨⟨(fun q => by rw [h1] at q; cases q), fun k hk => (had k (hk.imp (fun q => Nat.lt_of_lt_of_le q h2) id)).trans (hrel.2.1 k hk), hP, hD, hS⟩, by rw [zokv_l had h4]; exact hl, zokv_map had h3⟩
set_option maxHeartbeats 1000000 in
theorem zv_callV (ok : zTb M tb) {idx : Nat} (hlook : zlook tb pc = some (.invokevirtual idx, pc + 3, a, b, c0)) {z : zMt} (hz : zms[a]? = some z) {As rest : List Value} {o d : Nat} {Qc : Option Value → zW → Prop}
    (hst : st = As.reverse ++ .ref o :: rest) (hn : As.length = b) (ha : Nat.ble 9000 a = false) {ci : Nat} {fs : List Value} {r0 : vw_C} (ho : w[o]? = some (zO ci fs)) (hci : vwCl[ci]? = some r0) (hcl : r0.1 = z.1.cls) (hcat : (rest.map fun v => v.category).sum ≤ 8)
    (hal : z.2.2.2.2.1 = false ∨ (al = true ∧ n0 ≤ w.length ∧ rest.all (zokv w.length) = true ∧ l.all (fun q => zokv w.length q.2) = true)) (hR : d + 1 ≤ M.2.2.2.2.1.frames ∧ 8 + (z.2.2.1 + 11) + 64 * d ≤ M.2.2.2.2.1.locals) (hf : kc + z.2.2.2.2.2.1 ≤ M.2.2.2.2.1.cells ∧ ks + z.2.2.2.2.2.2.1 ≤ M.2.2.2.2.1.slots)
    (hK : zK d z (.ref o :: As) w Qc) (kk : ∀ (r : Option Value) (w' : zW), Qc r w' → zV M al n0 (kc + z.2.2.2.2.2.1) (ks + z.2.2.2.2.2.2.1) (pc + 3) l (r.toList ++ rest) w' Q) : zV M al n0 kc ks pc l st w Q := by
  intro p l0 e s m args below meth c dC dI dA ad0 A Z h9t hctx hfin ad H locs ls hrel hl
  obtain ⟨F, hF, ok⟩ := ok
  have h1 := ok _ (zlook_mem hlook)
  simp only [zgood, Bool.and_eq_true, decide_eq_true_eq, Nat.add_sub_cancel_left] at h1
  obtain ⟨hk0, hkd⟩ : (idx, a) ∈ F.2.1 ∧ (zms[a]?).map (fun z => z.2.2.2.2.2.2.2) = some (0, b) := by
    have h2 := h1.2
    simpa only [zgd, ha, Bool.false_or, Bool.and_eq_true, decide_eq_true_eq] using h2
  obtain ⟨z', hz', k1⟩ := hF.2.1 _ hk0
  rw [show zms[a]? = some z' from hz'] at hz
  cases hz
  rw [show zms[a]? = some z from hz'] at hkd
  have hkd : z.2.2.2.2.2.2.2 = _ := Option.some.inj hkd
  obtain ⟨hc, ⟨k5, k6, k7⟩, k4, m0, m1, m2⟩ := zms_ok z (List.mem_of_getElem? hz')
  have hkk : z.2.2.2.2.2.2.2.1 = 0 := by rw [hkd]
  have hnn : z.2.2.2.2.2.2.2.2 = b := by rw [hkd]
  rw [hnn] at k7
  obtain ⟨k2, k3⟩ := m0 hkk
  obtain ⟨hx, hb, hml, hown, hts, hKc, hA, hin⟩ := id hctx
  obtain ⟨e1, e2, hP, hD, hS⟩ := id hrel
  have hM := hK l0 h9t dC dI dA ad H.size
  subst hst
  subst hn
  have cw : CallW M.2.2.2.2.1 s args M.1 z.1.cls idx z.1 z.2.1 z.2.2.1 z.2.2.2.1 (zws z) (zrm d z) z.2.2.2.2.2.1 z.2.2.2.2.2.2.1 As.length :=
    ⟨callB_of As.length hts (zgoodIn z hc) rfl rfl rfl (hts _ k4) (hts _ k1) ⟨k5, k6, k7⟩ hR, hts _ k2, hts _ k3⟩
  have hp : PreV s H z.1.cls (ad o) (zPc dC dI dA ad (.ref o :: As) w H.size) (As.map (zv ad)) :=
    ⟨zblind dC dI dA ad _ w H.size, hcl ▸ va_recv hKc.1 hP hci (zw_at ho), fun U hU hW => ⟨rfl, by rw [hU], by rw [hU]; exact hP, zKx.moved hW.alike hKc, hD.weaken (fun _ _ _ _ => trivial)⟩⟩
  have hr := va_runV (g := F0 m pc ls ((As.reverse ++ .ref o :: rest).map (zv ad))) (As := As.map (zv ad)) (rest := rest.map (zv ad)) (cells := kc) (slots := ks) (locs := locs) (e := e) (below := below) (meth := meth) ⟨hx, hb, hml, hown, hts⟩ hM cw hp rfl (by rw [List.length_map]) hl.1 (by show List.map (zv ad) (As.reverse ++ .ref o :: rest) = _; rw [List.map_append, List.map_reverse]; rfl) (lv_room (by rw [zcats]; exact hcat)) h1.1.1 hf
  refine zafter hr hD hS hA (fun r w' ad' H1 locs1 hq hal' had hP1 hD1 hS1 => ?_)
  obtain ⟨j1, j2, j3⟩ := zjoin hrel hl hal hal' had hP1 hD1 hS1
  have k9 := kk r w' hq p l0 e s m args below meth c dC dI dA ad0 A Z h9t hctx hfin ad' H1 locs1 ls j1 j2
  rw [← j3]
  rw [List.map_append] at k9
  cases r <;> exact k9
set_option maxHeartbeats 1000000 in
theorem zv_callS (ok : zTb M tb) {idx : Nat} (hlook : zlook tb pc = some (.invokestatic idx, pc + 3, a, b, c0)) {z : zMt} (hz : zms[a]? = some z) {As rest : List Value} {d : Nat} {Qc : Option Value → zW → Prop}
    (hst : st = As.reverse ++ rest) (hn : As.length = b) (ha : Nat.ble 9000 a = false) (hcat : (rest.map fun v => v.category).sum ≤ 8)
    (hal : z.2.2.2.2.1 = false ∨ (al = true ∧ n0 ≤ w.length ∧ rest.all (zokv w.length) = true ∧ l.all (fun q => zokv w.length q.2) = true)) (hR : d + 1 ≤ M.2.2.2.2.1.frames ∧ 8 + (z.2.2.1 + 11) + 64 * d ≤ M.2.2.2.2.1.locals) (hf : kc + z.2.2.2.2.2.1 ≤ M.2.2.2.2.1.cells ∧ ks + z.2.2.2.2.2.2.1 ≤ M.2.2.2.2.1.slots)
    (hK : zK d z As w Qc) (kk : ∀ (r : Option Value) (w' : zW), Qc r w' → zV M al n0 (kc + z.2.2.2.2.2.1) (ks + z.2.2.2.2.2.2.1) (pc + 3) l (r.toList ++ rest) w' Q) : zV M al n0 kc ks pc l st w Q := by
  intro p l0 e s m args below meth c dC dI dA ad0 A Z h9t hctx hfin ad H locs ls hrel hl
  obtain ⟨F, hF, ok⟩ := ok
  have h1 := ok _ (zlook_mem hlook)
  simp only [zgood, Bool.and_eq_true, decide_eq_true_eq, Nat.add_sub_cancel_left] at h1
  obtain ⟨hk0, hkd⟩ : (idx, a) ∈ F.2.1 ∧ (zms[a]?).map (fun z => z.2.2.2.2.2.2.2) = some (1, b) := by
    have h2 := h1.2
    simpa only [zgd, ha, Bool.false_or, Bool.and_eq_true, decide_eq_true_eq] using h2
  obtain ⟨z', hz', k1⟩ := hF.2.1 _ hk0
  rw [show zms[a]? = some z' from hz'] at hz
  cases hz
  rw [show zms[a]? = some z from hz'] at hkd
  have hkd : z.2.2.2.2.2.2.2 = _ := Option.some.inj hkd
  obtain ⟨hc, ⟨k5, k6, k7⟩, k4, m0, m1, m2⟩ := zms_ok z (List.mem_of_getElem? hz')
  have hkk : z.2.2.2.2.2.2.2.1 = 1 := by rw [hkd]
  have hnn : z.2.2.2.2.2.2.2.2 = b := by rw [hkd]
  rw [hnn] at k7
  have k2 := m1 hkk
  obtain ⟨hx, hb, hml, hown, hts, hKc, hA, hin⟩ := id hctx
  obtain ⟨e1, e2, hP, hD, hS⟩ := id hrel
  have hM := hK l0 h9t dC dI dA ad H.size
  subst hst
  subst hn
  have cw : CallB M.2.2.2.2.1 s args M.1 idx z.1 z.2.1 z.2.2.1 z.2.2.2.1 (zws z) (zrm d z) z.2.2.2.2.2.1 z.2.2.2.2.2.2.1 As.length ∧ (Cond.static z.1).before args s = true :=
    ⟨callB_of As.length hts (zgoodIn z hc) rfl rfl rfl (hts _ k4) (hts _ k1) ⟨k5, k6, k7⟩ hR, hts _ k2⟩
  have hp : PreS s H (zPc dC dI dA ad As w H.size) (As.map (zv ad)) :=
    ⟨zblind dC dI dA ad _ w H.size, fun U hU hW => ⟨rfl, by rw [hU], by rw [hU]; exact hP, zKx.moved hW.alike hKc, hD.weaken (fun _ _ _ _ => trivial)⟩⟩
  have hr := va_runS (g := F0 m pc ls ((As.reverse ++ rest).map (zv ad))) (As := As.map (zv ad)) (rest := rest.map (zv ad)) (cells := kc) (slots := ks) (locs := locs) (e := e) (below := below) (meth := meth) ⟨hx, hb, hml, hown, hts⟩ hM cw hp rfl (by rw [List.length_map]) hl.1 (by show List.map (zv ad) (As.reverse ++ rest) = _; rw [List.map_append, List.map_reverse]) (lv_room (by rw [zcats]; exact hcat)) h1.1.1 hf
  refine zafter hr hD hS hA (fun r w' ad' H1 locs1 hq hal' had hP1 hD1 hS1 => ?_)
  obtain ⟨j1, j2, j3⟩ := zjoin hrel hl hal hal' had hP1 hD1 hS1
  have k9 := kk r w' hq p l0 e s m args below meth c dC dI dA ad0 A Z h9t hctx hfin ad' H1 locs1 ls j1 j2
  rw [← j3]
  rw [List.map_append] at k9
  cases r <;> exact k9
set_option maxHeartbeats 1000000 in
theorem zv_callI (ok : zTb M tb) {idx : Nat} (hlook : zlook tb pc = some (.invokespecial idx, pc + 3, a, b, c0)) {z : zMt} (hz : zms[a]? = some z) {As rest : List Value} {o d : Nat} {Qc : Option Value → zW → Prop}
    (hst : st = As.reverse ++ .ref o :: rest) (hn : As.length = b) (ha : Nat.ble 9000 a = false) (hcat : (rest.map fun v => v.category).sum ≤ 8)
    (hal : z.2.2.2.2.1 = false ∨ (al = true ∧ n0 ≤ w.length ∧ rest.all (zokv w.length) = true ∧ l.all (fun q => zokv w.length q.2) = true)) (hR : d + 1 ≤ M.2.2.2.2.1.frames ∧ 8 + (z.2.2.1 + 11) + 64 * d ≤ M.2.2.2.2.1.locals) (hf : kc + z.2.2.2.2.2.1 ≤ M.2.2.2.2.1.cells ∧ ks + z.2.2.2.2.2.2.1 ≤ M.2.2.2.2.1.slots)
    (hK : zK d z (.ref o :: As) w Qc) (kk : ∀ (r : Option Value) (w' : zW), Qc r w' → zV M al n0 (kc + z.2.2.2.2.2.1) (ks + z.2.2.2.2.2.2.1) (pc + 3) l (r.toList ++ rest) w' Q) : zV M al n0 kc ks pc l st w Q := by
  intro p l0 e s m args below meth c dC dI dA ad0 A Z h9t hctx hfin ad H locs ls hrel hl
  obtain ⟨F, hF, ok⟩ := ok
  have h1 := ok _ (zlook_mem hlook)
  simp only [zgood, Bool.and_eq_true, decide_eq_true_eq, Nat.add_sub_cancel_left] at h1
  obtain ⟨hk0, hkd⟩ : (idx, a) ∈ F.2.1 ∧ (zms[a]?).map (fun z => z.2.2.2.2.2.2.2) = some (2, b) := by
    have h2 := h1.2
    have e1 : Nat.beq a 9999 = false := by cases hq : Nat.beq a 9999 with
      | false => rfl
      | true => rw [Nat.eq_of_beq_eq_true hq] at ha; cases ha
    have e2 : Nat.beq a 9998 = false := by cases hq : Nat.beq a 9998 with
      | false => rfl
      | true => rw [Nat.eq_of_beq_eq_true hq] at ha; cases ha
    simpa only [zgd, e1, e2, Bool.false_and, Bool.false_or, Bool.and_eq_true, decide_eq_true_eq] using h2
  obtain ⟨z', hz', k1⟩ := hF.2.1 _ hk0
  rw [show zms[a]? = some z' from hz'] at hz
  cases hz
  rw [show zms[a]? = some z from hz'] at hkd
  have hkd : z.2.2.2.2.2.2.2 = _ := Option.some.inj hkd
  obtain ⟨hc, ⟨k5, k6, k7⟩, k4, m0, m1, m2⟩ := zms_ok z (List.mem_of_getElem? hz')
  have hkk : z.2.2.2.2.2.2.2.1 = 2 := by rw [hkd]
  have hnn : z.2.2.2.2.2.2.2.2 = b := by rw [hkd]
  rw [hnn] at k7
  obtain ⟨k2, k3, k8⟩ := m2 hkk
  obtain ⟨hx, hb, hml, hown, hts, hKc, hA, hin⟩ := id hctx
  obtain ⟨e1, e2, hP, hD, hS⟩ := id hrel
  have hM := hK l0 h9t dC dI dA ad H.size
  subst hst
  subst hn
  have cw : CallB M.2.2.2.2.1 s args M.1 idx z.1 z.2.1 z.2.2.1 none (zws z) (zrm d z) z.2.2.2.2.2.1 z.2.2.2.2.2.2.1 As.length ∧ z.1.name = "<init>" ∧ (Cond.instanceMethod z.1).before args s = true :=
    ⟨k8 ▸ callB_of (ret := z.2.2.2.1) As.length hts (zgoodIn z hc) rfl rfl rfl (hts _ k4) (hts _ k1) ⟨k5, k6, k7⟩ hR, k3, hts _ k2⟩
  have hp : PreS s H (zPc dC dI dA ad (.ref o :: As) w H.size) (.ref (ad o) :: As.map (zv ad)) :=
    ⟨zblind dC dI dA ad _ w H.size, fun U hU hW => ⟨rfl, by rw [hU], by rw [hU]; exact hP, zKx.moved hW.alike hKc, hD.weaken (fun _ _ _ _ => trivial)⟩⟩
  have hr := va_runI (g := F0 m pc ls ((As.reverse ++ .ref o :: rest).map (zv ad))) (As := As.map (zv ad)) (rest := rest.map (zv ad)) (cells := kc) (slots := ks) (locs := locs) (e := e) (below := below) (meth := meth) ⟨hx, hb, hml, hown, hts⟩ hM cw hp rfl (by rw [List.length_map]) hl.1 (by show List.map (zv ad) (As.reverse ++ .ref o :: rest) = _; rw [List.map_append, List.map_reverse]; rfl) (lv_room (by rw [zcats]; exact hcat)) h1.1.1 hf
  refine zafter hr hD hS hA (fun r w' ad' H1 locs1 hq hal' had hP1 hD1 hS1 => ?_)
  obtain ⟨j1, j2, j3⟩ := zjoin hrel hl hal hal' had hP1 hD1 hS1
  have k9 := kk r w' hq p l0 e s m args below meth c dC dI dA ad0 A Z h9t hctx hfin ad' H1 locs1 ls j1 j2
  rw [← j3]
  rw [List.map_append] at k9
  cases r <;> exact k9
/-- Object's own constructor -/
theorem zv_obj (ok : zTb M tb) (hO : Cond.instanceMethod Lib.objectInit ∈ zG ∧ Cond.code Lib.objectInit ⟨#[0xb1]⟩ 1 none ∈ zG) {idx : Nat} (hlook : zlook tb pc = some (.invokespecial idx, pc + 3, 9999, b, c0)) (h99 : zms[9999]? = none) {o : Nat} {rest : List Value} (hcat : (rest.map fun v => v.category).sum ≤ 8) (hR : 1 ≤ M.2.2.2.2.1.frames ∧ 20 ≤ M.2.2.2.2.1.locals)
    (kk : zV M al n0 kc ks (pc + 3) l rest w Q) : zV M al n0 kc ks pc l (.ref o :: rest) w Q := by
  intro p l0 e s m args below meth c dC dI dA ad0 A Z h9t hctx hfin ad H locs ls hrel hl
  obtain ⟨F, hF, ok⟩ := ok
  have h1 := ok _ (zlook_mem hlook)
  simp only [zgood, Bool.and_eq_true, decide_eq_true_eq, Nat.add_sub_cancel_left] at h1
  have h2 := h1.2
  have h3 : idx ∈ F.2.2.2.2 := by
    have e1 : Nat.beq 9999 9999 = true := rfl
    have e2 : Nat.beq 9999 9998 = false := rfl
    simpa only [zgd, e1, e2, h99, Option.map_none, Bool.true_and, Bool.false_or, Bool.or_eq_true, Bool.and_eq_true, decide_eq_true_eq, reduceCtorEq, and_false, or_false] using h2
  obtain ⟨hx, hb, hml, hown, hts, hKc, hA, hin⟩ := id hctx
  refine W.objInit (g := F0 m pc ls (.ref (ad o) :: rest.map (zv ad))) hx hb hown (hts _ (hF.2.2.2.2 _ h3)) (hts _ hO.1) (hts _ hO.2) rfl (hl.1.trans hml.symm) rfl h1.1.1 hR.1 ?_ (kk p l0 e s m args below meth c dC dI dA ad0 A Z h9t hctx hfin ad H locs ls hrel hl)
  have h4 : (((rest.map (zv ad)).map fun v => v.category).sum) ≤ 8 := by rw [zcats]; exact hcat
  have h5 := lv_room (m := m) (pc := pc) (ls := ls) (rest := .ref (ad o) :: rest.map (zv ad)) h4
  omega
end ZI
