theorem vr_outer (c : ClassId) (N h0 : Nat) : ∀ i : Nat, Jvm.Free.Multi.outerC c N h0 i = arrV c N (fun j => va_rf (if j < i then some (h0 + 1 + j) else none))
  | 0 => by
    show ({ cls := c, slots := Array.replicate N .null, vm := .none } : Cell) = _
    rw [arrV_new]
    refine congrArg (arrV c N) (funext fun j => ?_)
    simp [va_rf]
  | i + 1 => by
    show (Jvm.Free.Multi.outerC c N h0 i).setSlot i (.ref (h0 + 1 + i)) = _
    rw [vr_outer c N h0 i, arrV_store]
    refine congrArg (arrV c N) (funext fun j => ?_)
    by_cases e : j = i
    · subst e
      simp [updV, va_rf]
    · by_cases h : j < i
      · simp [updV, e, h, Nat.lt_succ_of_lt h]
      · simp [updV, e, h, show ¬ j < i + 1 by omega]
section ZR
variable {M : zM} {al : Bool} {n0 kc ks pc nxt a b : Nat} {c0 : Int} {l : zL} {st rest : List Value} {w : zW} {Q : Option Value → zW → Prop} {tb : List zE}
theorem zv_aald (ok : zTb M tb) (hlook : zlook tb pc = some (.aaload, pc + 1, a, b, c0)) {t k v : Nat} {es : List (Option Nat)} {i : Int32} (ht : t = 3 ∨ t = 4) (hw : w[k]? = some (zR t es)) (hin : vp_in i es.length) (hv : es.getD i.toNatClampNeg none = some v) (kk : zV M al n0 kc ks (pc + 1) l (.ref v :: st) w Q) : zV M al n0 kc ks pc l (.int i :: .ref k :: st) w Q := by
  intro p l0 e s m args below meth c dC dI dA ad0 A Z h9t hctx hfin ad H locs ls hrel hl
  obtain ⟨F, hF, ok⟩ := ok
  have h0 := ok _ (zlook_mem hlook)
  simp only [zgood, Bool.and_eq_true, decide_eq_true_eq, Nat.add_sub_cancel_left] at h0
  have k9 := kk p l0 e s m args below meth c dC dI dA ad0 A Z h9t hctx hfin ad H locs ls hrel hl
  obtain ⟨hx, hbb, hml, hown, hts, hKc, hA, hxn⟩ := id hctx
  obtain ⟨e1, e2, hP, hD, hS⟩ := id hrel
  have hlt : i.toNatClampNeg < es.length := Nat.not_le.mp fun q => hin (Or.inr q)
  have hva : va_rf ((es.getD i.toNatClampNeg none).map ad) = .ref (ad v) := by rw [hv]; rfl
  rcases ht with rfl | rfl
  · refine va_aldq hx hbb hKc.1 hP k 3 (zw_at hw) rfl hin h0.1.1 ?_
    rw [hva]; exact k9
  · refine W.aald (v := va_rf ((es.getD i.toNatClampNeg none).map ad)) (ty := .array .long) (g := F0 m pc ls (.int i :: .ref (ad k) :: st.map (zv ad))) hx hbb (hP k _ (zw_at hw)) ((hKc.1.2 4 _ rfl).1 es.length (fun j => va_rf ((es.getD j none).map ad))) rfl (fun q => by cases q) (by show ¬ (i < 0 ∨ (arrV _ _ _).slots.size ≤ _); rw [arrV_size]; exact hin) (by show (arrV _ _ _).slots[_]? = _; rw [arrV_read _ _ hlt]) rfl rfl h0.1.1 ?_
    rw [hva]; exact k9
theorem zv_aast (ok : zTb M tb) (hlook : zlook tb pc = some (.aastore, pc + 1, a, b, c0)) {k v : Nat} {es : List (Option Nat)} {fs : List Value} {i : Int32} (hw : w[k]? = some (zR 3 es)) (hv : w[v]? = some (zO 2 fs)) (hin : vp_in i es.length) (kk : zV M al n0 kc ks (pc + 1) l st (w.set k (zR 3 (es.set i.toNatClampNeg (some v)))) Q) : zV M al n0 kc ks pc l (.ref v :: .int i :: .ref k :: st) w Q := by
  intro p l0 e s m args below meth c dC dI dA ad0 A Z h9t hctx hfin ad H locs ls hrel hl
  obtain ⟨F, hF, ok⟩ := ok
  have h0 := ok _ (zlook_mem hlook)
  simp only [zgood, Bool.and_eq_true, decide_eq_true_eq, Nat.add_sub_cancel_left] at h0
  obtain ⟨hx, hbb, hml, hown, hts, hKc, hA, hxn⟩ := id hctx
  obtain ⟨e1, e2, hP, hD, hS⟩ := id hrel
  have hlt : i.toNatClampNeg < es.length := Nat.not_le.mp fun q => hin (Or.inr q)
  refine va_astq (r := (RX3, TX3, 6)) hx hbb hKc.1 hP hD hS k 3 v 2 (zw_at hw) rfl (zw_at hv) rfl hin h0.1.1 (fun H1 locs1 hP1 hD1 hS1 => ?_)
  have hfe : va_up (fun j : Nat => (es.getD j none).map ad) i.toNatClampNeg (some (ad v)) = (fun j : Nat => ((es.set i.toNatClampNeg (some v)).getD j none).map ad) := by
    funext j
    by_cases hj : j = i.toNatClampNeg
    · subst hj
      rw [List.getD_eq_getElem?_getD, List.getElem?_set_self hlt]
      simp [va_up]
    · rw [List.getD_eq_getElem?_getD, List.getElem?_set_ne (Ne.symm hj), ← List.getD_eq_getElem?_getD]
      simp [va_up, hj]
  have ew : (zw dA ad w).set k (ad k, .inl (dA 3, es.length, .inr (.inr (.inr (.inr (va_up (fun j : Nat => (es.getD j none).map ad) i.toNatClampNeg (some (ad v)))))))) = zw dA ad (w.set k (zR 3 (es.set i.toNatClampNeg (some v)))) := by
    rw [hfe, ← zw_set]
    show List.set _ _ (ad k, Sum.inl (dA 3, es.length, _)) = List.set _ _ (ad k, Sum.inl (dA 3, (es.set i.toNatClampNeg (some v)).length, _))
    rw [List.length_set]
  rw [ew] at hP1 hD1
  exact kk p l0 e s m args below meth c dC dI dA ad0 A Z h9t hctx hfin ad H1 locs1 ls ⟨e1, e2, hP1, hD1, hS1⟩ hl
theorem zv_anew (ok : zTb M tb) {idx : Nat} (hlook : zlook tb pc = some (.anewarray idx, pc + 3, a, b, c0)) (N : Nat) {n : Int32} (hn : ¬ n < 0) (hN : n.toNatClampNeg = N) (hb : N ≤ 100000) (h1 : Cond.classLink M.1 idx RX3 ∈ zG)
    (hok : zokA n0 l st w) (hk : kc + 1 ≤ M.2.2.2.2.1.cells) (hs : ks + N ≤ M.2.2.2.2.1.slots) (kk : zV M true n0 (kc + 1) (ks + N) (pc + 3) l (.ref w.length :: st) (w ++ [zR 3 (List.replicate N none)]) Q) : zV M true n0 kc ks pc l (.int n :: st) w Q := by
  intro p l0 e s m args below meth c dC dI dA ad0 A Z h9t hctx hfin ad H locs ls hrel hl
  obtain ⟨F, hF, ok⟩ := ok
  have h0 := ok _ (zlook_mem hlook)
  simp only [zgood, Bool.and_eq_true, decide_eq_true_eq, Nat.add_sub_cancel_left] at h0
  obtain ⟨hx, hbb, hml, hown, hts, hKc, hA, hxn⟩ := id hctx
  obtain ⟨e1, e2, hP, hD, hS⟩ := id hrel
  refine va_newq (C := RX3) (N' := N) hx hbb hown (hts _ h1) hKc.2.1 hKc.1 hP hD hS hA hn hN (by omega) hk hs h0.1.1 (fun q cA H1 hK1 hP1 hD1 hS1 => ?_)
  have ec : cA = dA 3 := by
    obtain ⟨_, _, _, _, _, g1⟩ := (hK1.2 5 (cA, .object RX3) rfl).2
    obtain ⟨_, _, _, _, _, g2⟩ := (hKc.1.2 3 _ rfl).2
    exact Option.some.inj (g1.symm.trans g2)
  subst ec
  have hz : ∀ a1, zc dA a1 (zR 3 (List.replicate N none)) = Sum.inl (dA 3, N, Sum.inr (Sum.inr (Sum.inr (Sum.inr (fun _ => none))))) := fun a1 => by
    have e : (fun j : Nat => ((List.replicate N (none : Option Nat)).getD j none).map a1) = (fun _ => none) := by
      funext j
      rw [List.getD_eq_getElem?_getD, List.getElem?_replicate]
      split <;> rfl
    show Sum.inl (dA 3, (List.replicate N (none : Option Nat)).length, _) = _
    rw [e, List.length_replicate]
  obtain ⟨j1, j2, j3, j4⟩ := zpush (c := zR 3 (List.replicate N none)) (q := q) hok (fun a1 a2 => (hz a1).trans (hz a2).symm) hrel hl (by rw [hz]; exact hP1) (by rw [hz]; exact hD1) hS1
  have k9 := kk p l0 e s m args below meth c dC dI dA ad0 A Z h9t hctx hfin _ H1 locs ls j1 j2
  rw [List.map_cons, j3] at k9
  have k10 : zv (va_up ad w.length q) (.ref w.length) = .ref q := congrArg Value.ref j4
  rw [k10] at k9
  exact k9
theorem zw_pushes {dA : Nat → ClassId} {ad ad' : Nat → Nat} (h : ∀ k, (k < w.length ∨ zsent ≤ k) → ad' k = ad k) (hw : w.all (zokc w.length) = true) {cs : zW} {k : Nat} {q : Nat × va_E} (hq : (zw dA ad' (w ++ cs))[k]? = some q) : q.1 = ad' k ∧ ((k < w.length ∧ (zw dA ad w)[k]? = some q) ∨ (w.length ≤ k ∧ ∃ c, cs[k - w.length]? = some c ∧ q = (ad' k, zc dA ad' c))) := by
  by_cases hk : k < w.length
  · have h1 : w[k]? = some w[k] := List.getElem?_eq_getElem hk
    rw [zw_at (show (w ++ cs)[k]? = some w[k] by rw [List.getElem?_append_left hk]; exact h1)] at hq
    cases hq
    refine ⟨rfl, Or.inl ⟨hk, ?_⟩⟩
    rw [zw_at h1, h k (Or.inl hk), zokc_eq h (List.all_eq_true.mp hw _ (List.getElem_mem hk))]
  · cases hc : cs[k - w.length]? with
    | none =>
      have : (zw dA ad' (w ++ cs))[k]? = none := List.getElem?_eq_none (by rw [zw_len, List.length_append]; have := List.getElem?_eq_none_iff.mp hc; omega)
      rw [this] at hq; cases hq
    | some c =>
      rw [zw_at (show (w ++ cs)[k]? = some c by rw [List.getElem?_append_right (by omega)]; exact hc)] at hq
      cases hq
      exact ⟨rfl, Or.inr ⟨by omega, c, rfl, rfl⟩⟩
def zgrid (L N K : Nat) : zW := zR 4 ((List.range N).map (fun i => some (L + 1 + i))) :: List.replicate N (zJ K (fun _ => 0))
set_option maxHeartbeats 1000000 in
theorem zv_mna (ok : zTb M tb) {idx : Nat} (hlook : zlook tb pc = some (.multianewarray idx 2, pc + 4, a, b, c0)) (N K : Nat) {n k : Int32} (hn : ¬ n < 0) (hk : ¬ k < 0) (hN : n.toNatClampNeg = N) (hK : k.toNatClampNeg = K) (hb : N ≤ 1000) (hb' : K ≤ 1000) (h1 : Cond.classLink M.1 idx ("[" ++ (FieldType.array .long).toString) ∈ zG) (h2 : Cond.arrayClass .long ∈ zG)
    (hok : zokA n0 l st w) (hz : w.length + 1 + N ≤ zsent) (hkc : kc + (1 + N) ≤ M.2.2.2.2.1.cells) (hs : ks + (N + N * K) ≤ M.2.2.2.2.1.slots) (kk : zV M true n0 (kc + 1 + N) (ks + N + N * K) (pc + 4) l (.ref w.length :: st) (w ++ zgrid w.length N K) Q) : zV M true n0 kc ks pc l (.int k :: .int n :: st) w Q := by
  subst hN
  subst hK
  intro p l0 e s m args below meth c dC dI dA ad0 A Z h9t hctx hfin ad H locs ls hrel hl
  obtain ⟨F, hF, ok⟩ := ok
  have h0 := ok _ (zlook_mem hlook)
  simp only [zgood, Bool.and_eq_true, decide_eq_true_eq, Nat.add_sub_cancel_left] at h0
  obtain ⟨hx, hbb, hml, hown, hts, hKc, hA, hxn⟩ := id hctx
  obtain ⟨e1, e2, hP, hD, hS⟩ := id hrel
  obtain ⟨o1, o2, o3, o4, o5⟩ := id hok
  intro T hT Xs
  obtain ⟨vm₁, cA, comp, -, fA, fC, hO, -, X', step⟩ := Xs.multianewarray2F (ty := .long) hx hown (hts _ h1) hKc.2.2 (hts _ h2) (g := F0 m pc ls (.int k :: .int n :: st.map (zv ad))) rfl (by rw [hbb]; exact h0.1.1) rfl hn hk (by omega) (by have := Nat.mul_le_mul hb' (show componentBytes .long ≤ 8 by decide); omega) (by omega) rfl rfl hkc hs
  have ec : comp = dA 2 := Option.some.inj (fC.symm.trans (hKc.1.2 2 _ rfl).2)
  have eA : cA = dA 4 := Option.some.inj (fA.symm.trans (hKc.1.2 4 _ rfl).2)
  subst ec
  subst eA
  generalize hFl : Jvm.Free.Multi.fill (T.setVm vm₁) (dA 4) (dA 2) n.toNatClampNeg k.toNatClampNeg (defaultValue .long) n.toNatClampNeg = Fl at X' step
  have hTh : (T.setVm vm₁).heap = H := hT
  obtain ⟨f1, f2, -, -⟩ := Jvm.Free.Multi.fill_facts (T.setVm vm₁) (dA 4) (dA 2) n.toNatClampNeg k.toNatClampNeg (defaultValue .long) n.toNatClampNeg
  rw [hFl, hTh] at f1 f2
  have hold : ∀ x : Nat, x < H.size → Fl.heap[x]? = H[x]? := fun x hx => by
    have := Jvm.Free.Multi.fill_old (T.setVm vm₁) (dA 4) (dA 2) n.toNatClampNeg k.toNatClampNeg (defaultValue .long) (a := x) (by rw [hTh]; exact hx) n.toNatClampNeg
    rw [hFl, hTh] at this
    exact this
  have hrow : ∀ j : Nat, j < n.toNatClampNeg → Fl.heap[H.size + 1 + j]? = some (vp_cell (dA 2) (k.toNatClampNeg, .inr (.inl (fun _ => 0)))) := fun j hj => by
    have := Jvm.Free.Multi.fill_inner (T.setVm vm₁) (dA 4) (dA 2) n.toNatClampNeg k.toNatClampNeg (defaultValue .long) n.toNatClampNeg j hj
    rw [hFl, hTh] at this
    rw [this]
    exact congrArg some (arrV_new (dA 2) k.toNatClampNeg (defaultValue .long))
  rw [vr_outer] at f2
  have had : ∀ j, (j < w.length ∨ zsent ≤ j) → (fun j : Nat => if w.length ≤ j ∧ j < w.length + 1 + n.toNatClampNeg then H.size + (j - w.length) else ad j) j = ad j := fun j hj => by
    show (if w.length ≤ j ∧ j < w.length + 1 + n.toNatClampNeg then H.size + (j - w.length) else ad j) = ad j
    rw [if_neg (by omega)]
  generalize hade : (fun j : Nat => if w.length ≤ j ∧ j < w.length + 1 + n.toNatClampNeg then H.size + (j - w.length) else ad j) = ad' at had
  have hnew : ∀ j, w.length ≤ j → j < w.length + 1 + n.toNatClampNeg → ad' j = H.size + (j - w.length) := fun j h1 h2 => by rw [← hade]; exact if_pos ⟨h1, h2⟩
  have hlen : (zgrid w.length n.toNatClampNeg k.toNatClampNeg).length = 1 + n.toNatClampNeg := by simp [zgrid]; omega
  have hP1 : va_P (dC, dI) vwCl (zw dA ad' (w ++ zgrid w.length n.toNatClampNeg k.toNatClampNeg)) Fl.heap := by
    intro k9 q hq
    obtain ⟨-, ⟨g1, g2⟩ | ⟨g1, cc, g2, rfl⟩⟩ := zw_pushes had o5 hq
    · exact (hP k9 q g2).kept (hold _ (hP k9 q g2).lt)
    · have g3 := (List.getElem?_eq_some_iff.mp g2).1
      rw [hlen] at g3
      rw [hnew k9 g1 (by omega)]
      cases hj : k9 - w.length with
      | zero =>
        rw [hj] at g2
        cases g2
        show Fl.heap[H.size + 0]? = some (vp_cell (dA 4) _)
        rw [Nat.add_zero, f2, vp_cell_q]
        refine congrArg some ?_
        simp only [List.length_map, List.length_range]
        refine congrArg (arrV (dA 4) n.toNatClampNeg) (funext fun j => ?_)
        by_cases hjn : j < n.toNatClampNeg
        · have e5 : ((List.range n.toNatClampNeg).map (fun i => some (w.length + 1 + i))).getD j none = some (w.length + 1 + j) := by
            rw [List.getD_eq_getElem?_getD, List.getElem?_map, List.getElem?_range hjn]; rfl
          rw [e5, if_pos hjn]
          show va_rf (some (H.size + 1 + j)) = va_rf (some (ad' (w.length + 1 + j)))
          rw [hnew _ (by omega) (by omega), show H.size + (w.length + 1 + j - w.length) = H.size + 1 + j by omega]
        · have e5 : ((List.range n.toNatClampNeg).map (fun i => some (w.length + 1 + i))).getD j none = none := by
            rw [List.getD_eq_getElem?_getD, List.getElem?_eq_none (by simp; omega)]; rfl
          rw [e5, if_neg hjn]
          rfl
      | succ j =>
        rw [hj] at g2
        have g4 : (List.replicate n.toNatClampNeg (zJ k.toNatClampNeg (fun _ => 0)))[j]? = some cc := g2
        rw [List.getElem?_replicate] at g4
        split at g4
        · rename_i hjn
          cases g4
          show Fl.heap[H.size + (j + 1)]? = some _
          rw [show H.size + (j + 1) = H.size + 1 + j by omega]
          exact hrow j hjn
        · cases g4
  have hD1 : va_D A (zw dA ad' (w ++ zgrid w.length n.toNatClampNeg k.toNatClampNeg)) := by
    have key : ∀ (k9 : Nat) (q : Nat × va_E), (zw dA ad' (w ++ zgrid w.length n.toNatClampNeg k.toNatClampNeg))[k9]? = some q → (k9 < w.length ∧ (zw dA ad w)[k9]? = some q ∧ q.1 < H.size) ∨ (w.length ≤ k9 ∧ q.1 = H.size + (k9 - w.length)) := by
      intro k9 q hq
      obtain ⟨g0, ⟨g1, g2⟩ | ⟨g1, cc, g2, -⟩⟩ := zw_pushes had o5 hq
      · exact Or.inl ⟨g1, g2, (hP k9 q g2).lt⟩
      · have g3 := (List.getElem?_eq_some_iff.mp g2).1
        rw [hlen] at g3
        exact Or.inr ⟨g1, by rw [g0, hnew k9 g1 (by omega)]⟩
    refine ⟨fun i j x y hi hj hxy => ?_, fun k9 q hq => ?_⟩
    · rcases key i x hi with ⟨a1, a2, a3⟩ | ⟨a1, a2⟩ <;> rcases key j y hj with ⟨b1, b2, b3⟩ | ⟨b1, b2⟩
      · exact hD.1 i j x y a2 b2 hxy
      · omega
      · omega
      · omega
    · rcases key k9 q hq with ⟨a1, a2, -⟩ | ⟨a1, a2⟩
      · exact hD.2 k9 q a2
      · rw [a2]; exact hA _ (by have := hS.1; omega)
  have hS1 : va_S A s.heap Fl.heap locs := ⟨by rw [f1]; have := hS.1; omega, fun x h1 h2 => (hold x (Nat.lt_of_lt_of_le h1 hS.1)).trans (hS.2.1 x h1 h2), hS.2.2⟩
  have k9 := kk p l0 e s m args below meth c dC dI dA ad0 A Z h9t hctx hfin ad' Fl.heap locs ls ⟨fun q => (by cases q), fun j hj => (had j (hj.imp (fun z => Nat.lt_of_lt_of_le z o1) id)).trans (hrel.2.1 j hj), hP1, hD1, hS1⟩ (by rw [zokv_l had o4]; exact hl)
  rw [List.map_cons, zokv_map had o3] at k9
  have k10 : zv ad' (.ref w.length) = .ref H.size := congrArg Value.ref (by rw [hnew _ (Nat.le_refl _) (by omega), Nat.sub_self, Nat.add_zero])
  rw [k10] at k9
  obtain ⟨t, a1, b1⟩ := k9 Fl rfl X'
  refine ⟨t, step t ?_, b1⟩
  have e7 : T.heap.size = H.size := by rw [hT]
  rw [e7]
  exact a1
end ZR
