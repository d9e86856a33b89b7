section ZN
variable {M : zM} {n0 kc ks pc nxt a b : Nat} {c0 : Int} {l : zL} {st rest : List Value} {w : zW} {Q : Option Value → zW → Prop} {tb : List zE}
def zokc (n : Nat) : zC → Bool
  | .inl _ => true
  | .inr (.inl _) => true
  | .inr (.inr (.inl (_, es))) => es.all (fun e => match e with | none => true | some k => Nat.blt k n || Nat.ble zsent k)
  | .inr (.inr (.inr (_, fs))) => fs.all (zokv n)
theorem zokc_eq {n : Nat} {dA : Nat → ClassId} {ad ad' : Nat → Nat} (h : ∀ k, (k < n ∨ zsent ≤ k) → ad' k = ad k) {c : zC} (hc : zokc n c = true) : zc dA ad' c = zc dA ad c := by
  match c, hc with
  | .inl (t, n, f), _ => rfl
  | .inr (.inl (n, f)), _ => rfl
  | .inr (.inr (.inl (t, es))), hc =>
    have e : (fun i : Nat => (es.getD i none).map ad') = (fun i : Nat => (es.getD i none).map ad) := by
      funext i
      by_cases hi : i < es.length
      · have hm : es.getD i none ∈ es := by rw [List.getD_eq_getElem?_getD, List.getElem?_eq_getElem hi]; exact List.getElem_mem hi
        have := List.all_eq_true.mp hc _ hm
        cases hv : es.getD i none with
        | none => rfl
        | some k =>
          rw [hv] at this
          simp only [Bool.or_eq_true] at this
          show some (ad' k) = some (ad k)
          rw [h k (this.elim (fun q => Or.inl (Nat.le_of_ble_eq_true q)) (fun q => Or.inr (Nat.le_of_ble_eq_true q)))]
      · rw [List.getD_eq_getElem?_getD, List.getElem?_eq_none (by omega)]; rfl
    show Sum.inl (dA t, es.length, Sum.inr (Sum.inr (Sum.inr (Sum.inr _)))) = Sum.inl (dA t, es.length, Sum.inr (Sum.inr (Sum.inr (Sum.inr _))))
    rw [e]
  | .inr (.inr (.inr (ci, fs))), hc => exact congrArg (fun x => Sum.inr (ci, x)) (zokv_map h hc)
theorem zw_push {dA : Nat → ClassId} {ad ad' : Nat → Nat} (h : ∀ k, (k < w.length ∨ zsent ≤ k) → ad' k = ad k) (hw : w.all (zokc w.length) = true) (c : zC) : zw dA ad' (w ++ [c]) = zw dA ad w ++ [(ad' w.length, zc dA ad' c)] := by
  apply List.ext_getElem?
  intro i
  by_cases hi : i < w.length
  · rw [List.getElem?_append_left (by rw [zw_len]; exact hi)]
    have h1 : w[i]? = some w[i] := List.getElem?_eq_getElem hi
    rw [zw_at h1, zw_at (show (w ++ [c])[i]? = some w[i] by rw [List.getElem?_append_left hi]; exact h1), h i (Or.inl hi), zokc_eq h (List.all_eq_true.mp hw _ (List.getElem_mem hi))]
  · rw [List.getElem?_append_right (by rw [zw_len]; omega), zw_len]
    by_cases hj : i = w.length
    · subst hj
      rw [zw_at (show (w ++ [c])[w.length]? = some c by simp), Nat.sub_self]
      rfl
    · rw [List.getElem?_eq_none (by rw [zw_len, List.length_append]; simp; omega), List.getElem?_eq_none (by simp; omega)]
/-- what must hold where a cell is made -/
def zokA (n0 : Nat) (l : zL) (st : List Value) (w : zW) : Prop := n0 ≤ w.length ∧ w.length < zsent ∧ st.all (zokv w.length) = true ∧ l.all (fun q => zokv w.length q.2) = true ∧ w.all (zokc w.length) = true
theorem zpush {dC : Nat → ClassId} {dI : Nat → Nat → Nat} {dA : Nat → ClassId} {ad0 ad : Nat → Nat} {A : Nat → Prop} {H0 H H1 : Heap} {locs : List Loc} {ls : Array Slot} {nL q : Nat} {c : zC} (ok : zokA n0 l st w) (hc : ∀ ad1 ad2, zc dA ad1 c = zc dA ad2 c) (hrel : zrel dC dI dA ad0 ad A n0 true H0 H locs w) (hl : lv_has ls nL (zl ad l))
    (hP : va_P (dC, dI) vwCl (zw dA ad w ++ [(q, zc dA ad c)]) H1) (hD : va_D A (zw dA ad w ++ [(q, zc dA ad c)])) (hS : va_S A H0 H1 locs) :
    zrel dC dI dA ad0 (va_up ad w.length q) A n0 true H0 H1 locs (w ++ [c]) ∧ lv_has ls nL (zl (va_up ad w.length q) l) ∧ st.map (zv (va_up ad w.length q)) = st.map (zv ad) ∧ va_up ad w.length q w.length = q := by
  obtain ⟨o1, o2, o3, o4, o5⟩ := ok
  have h : ∀ k, (k < w.length ∨ zsent ≤ k) → va_up ad w.length q k = ad k := fun k hk => by
    have : k ≠ w.length := by omega
    simp [va_up, this]
  have hq : va_up ad w.length q w.length = q := by simp [va_up]
  have e : zw dA (va_up ad w.length q) (w ++ [c]) = zw dA ad w ++ [(q, zc dA ad c)] := by rw [zw_push h o5, hq, hc _ ad]
  exact ⟨⟨fun q => (by cases q), fun k hk => (h k (hk.imp (fun z => Nat.lt_of_lt_of_le z o1) id)).trans (hrel.2.1 k hk), by rw [e]; exact hP, by rw [e]; exact hD, hS⟩, by rw [zokv_l h o4]; exact hl, zokv_map h o3, hq⟩
def znoref : Value → Bool
  | .ref _ => false
  | _ => true
theorem znoref_map {ad : Nat → Nat} {fs : List Value} (h : fs.all znoref = true) : fs.map (zv ad) = fs := by
  have h2 : fs.map (zv ad) = fs.map id := List.map_congr_left fun v hv => by
    have := List.all_eq_true.mp h v hv
    cases v <;> first | rfl | cases this
  rw [h2, List.map_id]
theorem zv_new (ok : zTb M tb) {idx : Nat} (hlook : zlook tb pc = some (.new idx, pc + 3, a, b, c0)) {ci : Nat} {r0 : vw_C} (hci : vwCl[ci]? = some r0) (h1 : Cond.classLink M.1 idx r0.1 ∈ zG) (h2 : Cond.instantiable r0.1 r0.2.2 ∈ zG) (h3 : Cond.initialized r0.1 ∈ zG) (fs : List Value) (hfs : ∀ j, j < r0.2.2 → defaultValue (zty ci j) = vp_V fs j) (hnr : fs.all znoref = true)
    (hok : zokA n0 l st w) (hk : kc + 1 ≤ M.2.2.2.2.1.cells) (hs : ks + r0.2.2 ≤ M.2.2.2.2.1.slots) (kk : zV M true n0 (kc + 1) (ks + r0.2.2) (pc + 3) l (.ref w.length :: st) (w ++ [zO ci fs]) Q) : zV M true n0 kc ks pc l st w Q := by
  intro p l0 e s m args below meth c dC dI dA ad0 A Z h9t hctx hfin ad H locs ls hrel hl
  obtain ⟨F, hF, ok⟩ := ok
  have h0 := ok _ (zlook_mem hlook)
  simp only [zgood, Bool.and_eq_true, decide_eq_true_eq, Nat.add_sub_cancel_left] at h0
  obtain ⟨hx, hb, hml, hown, hts, hKc, hA, hin⟩ := id hctx
  obtain ⟨e1, e2, hP, hD, hS⟩ := id hrel
  refine va_new (ci := ci) (fs := fs) (C := r0.1) (T := r0.2.1) (N := r0.2.2) hx hb hts (zin_ok hci) (zty ci) (zty_ok ci (zlt7 hci) r0 hci) hown (hts _ h1) (hts _ h2) (hts _ h3) hKc.1 hP hD hS hA hci hfs hk hs h0.1.1 (fun q H1 hP1 hD1 hS1 => ?_)
  have hzc : ∀ a1, zc dA a1 (zO ci fs) = Sum.inr (ci, fs) := fun a1 => congrArg (fun x => Sum.inr (ci, x)) (znoref_map hnr)
  obtain ⟨j1, j2, j3, j4⟩ := zpush (c := zO ci fs) (q := q) hok (fun a1 a2 => (hzc a1).trans (hzc a2).symm) hrel hl (by rw [hzc]; exact hP1) (by rw [hzc]; exact hD1) hS1
  have k9 := kk p l0 e s m args below meth c dC dI dA ad0 A Z h9t hctx hfin _ H1 locs ls j1 j2
  rw [List.map_cons, j3] at k9
  have k10 : zv (va_up ad w.length q) (.ref w.length) = .ref q := congrArg Value.ref j4
  rw [k10] at k9
  exact k9
theorem zv_newI (ok : zTb M tb) {at_ : ArrayType} (hlook : zlook tb pc = some (.newarray at_, pc + 2, a, b, c0)) (t N : Nat) {n : Int32} (hty : (t = 0 ∧ at_ = .int) ∨ (t = 1 ∧ at_ = .boolean)) (hn : ¬ n < 0) (hN : n.toNatClampNeg = N) (hb : N ≤ 100000) (h1 : Cond.arrayClass .int ∈ zG) (h2 : Cond.arrayClass .boolean ∈ zG)
    (hok : zokA n0 l st w) (hk : kc + 1 ≤ M.2.2.2.2.1.cells) (hs : ks + N ≤ M.2.2.2.2.1.slots) (kk : zV M true n0 (kc + 1) (ks + N) (pc + 2) l (.ref w.length :: st) (w ++ [zI t N (fun _ => 0)]) Q) : zV M true n0 kc ks pc l (.int n :: st) w Q := by
  intro p l0 e s m args below meth c dC dI dA ad0 A Z h9t hctx hfin ad H locs ls hrel hl
  obtain ⟨F, hF, ok⟩ := ok
  have h0 := ok _ (zlook_mem hlook)
  simp only [zgood, Bool.and_eq_true, decide_eq_true_eq, Nat.add_sub_cancel_left] at h0
  obtain ⟨hx, hbb, hml, hown, hts, hKc, hA, hin⟩ := id hctx
  obtain ⟨e1, e2, hP, hD, hS⟩ := id hrel
  have key : ∀ (ty : FieldType) (t9 : Nat), newarray.typeOf at_ = ty → Cond.arrayClass ty ∈ zG → (∀ cA : ClassId, vp_cell cA (N, .inl (fun _ => 0)) = arrV cA N (fun _ => defaultValue ty)) → componentBytes ty ≤ 4 → (ztys dA)[t9]? = some (dA t, ty) → va_RA s (dA t) ty → (∀ cA, va_RA s cA ty → va_RA s (dA t) ty → cA = dA t) →
      W p l0 e M.2.2.2.2.1 s m args below meth c H locs kc ks Z (F0 m pc ls ((.int n :: st).map (zv ad))) := by
    intro ty t9 g1 g2 g3 g4 g5 g6 g7
    refine va_newa (atype := at_) (ty := ty) (N' := N) (a0 := (N, .inl (fun _ => 0))) hx hbb (g1 ▸ hts _ g2) g1 hKc.1 hP hD hS hA g3 hn hN (by have := Nat.mul_le_mul hb g4; omega) hk hs h0.1.1 (fun q cA H1 hK1 hP1 hD1 hS1 => ?_)
    have ec : cA = dA t := g7 cA (hK1.2 5 (cA, ty) rfl).2 g6
    subst ec
    obtain ⟨j1, j2, j3, j4⟩ := zpush (c := zI t N (fun _ => 0)) (q := q) hok (fun a1 a2 => rfl) hrel hl hP1 hD1 hS1
    have k9 := kk p l0 e s m args below meth c dC dI dA ad0 A Z h9t hctx hfin _ H1 locs ls j1 j2
    rw [List.map_cons, j3] at k9
    have k10 : zv (va_up ad w.length q) (.ref w.length) = .ref q := congrArg Value.ref j4
    rw [k10] at k9
    exact k9
  rcases hty with ⟨rfl, rfl⟩ | ⟨rfl, rfl⟩
  · exact key .int 0 rfl h1 (fun _ => rfl) (by decide) rfl (hKc.1.2 0 _ rfl).2 (fun cA h1 h2 => Option.some.inj (Eq.trans (Eq.symm (h1 : s.vm.findClass _ = some cA)) h2))
  · exact key .boolean 1 rfl h2 (fun _ => rfl) (by decide) rfl (hKc.1.2 1 _ rfl).2 (fun cA h1 h2 => Option.some.inj (Eq.trans (Eq.symm (h1 : s.vm.findClass _ = some cA)) h2))
theorem zv_newJ (ok : zTb M tb) (hlook : zlook tb pc = some (.newarray .long, pc + 2, a, b, c0)) (N : Nat) {n : Int32} (hn : ¬ n < 0) (hN : n.toNatClampNeg = N) (hb : N ≤ 100000) (h1 : Cond.arrayClass .long ∈ zG)
    (hok : zokA n0 l st w) (hk : kc + 1 ≤ M.2.2.2.2.1.cells) (hs : ks + N ≤ M.2.2.2.2.1.slots) (kk : zV M true n0 (kc + 1) (ks + N) (pc + 2) l (.ref w.length :: st) (w ++ [zJ N (fun _ => 0)]) Q) : zV M true n0 kc ks pc l (.int n :: st) w Q := by
  intro p l0 e s m args below meth c dC dI dA ad0 A Z h9t hctx hfin ad H locs ls hrel hl
  obtain ⟨F, hF, ok⟩ := ok
  have h0 := ok _ (zlook_mem hlook)
  simp only [zgood, Bool.and_eq_true, decide_eq_true_eq, Nat.add_sub_cancel_left] at h0
  obtain ⟨hx, hbb, hml, hown, hts, hKc, hA, hin⟩ := id hctx
  obtain ⟨e1, e2, hP, hD, hS⟩ := id hrel
  refine va_newa (atype := .long) (ty := .long) (N' := N) (a0 := (N, .inr (.inl (fun _ => 0)))) hx hbb (hts _ h1) rfl hKc.1 hP hD hS hA (fun _ => rfl) hn hN (by have := Nat.mul_le_mul hb (show componentBytes .long ≤ 8 by decide); omega) hk hs h0.1.1 (fun q cA H1 hK1 hP1 hD1 hS1 => ?_)
  have g1 : s.vm.findClass _ = some cA := (hK1.2 5 (cA, .long) rfl).2
  have g2 : s.vm.findClass _ = some (dA 2) := (hKc.1.2 2 _ rfl).2
  have ec : cA = dA 2 := Option.some.inj (g1.symm.trans g2)
  subst ec
  obtain ⟨j1, j2, j3, j4⟩ := zpush (c := zJ N (fun _ => 0)) (q := q) hok (fun a1 a2 => rfl) hrel hl hP1 hD1 hS1
  have k9 := kk p l0 e s m args below meth c dC dI dA ad0 A Z h9t hctx hfin _ H1 locs ls j1 j2
  rw [List.map_cons, j3] at k9
  have k10 : zv (va_up ad w.length q) (.ref w.length) = .ref q := congrArg Value.ref j4
  rw [k10] at k9
  exact k9
end ZN
