def zrm (d : Nat) (z : zMt) : Room := { frames := d, cells := z.2.2.2.2.2.1, slots := z.2.2.2.2.2.2.1, locals := 64 * d }
def zws (z : zMt) : List Cond := Cond.code z.1 z.2.1 z.2.2.1 z.2.2.2.1 :: zG
abbrev zMo (d : Nat) (z : zMt) : zM := (z.1.cls, z.2.1, z.2.2.1, Nat.beq z.2.2.2.2.2.2.2.1 2, zrm d z, z.2.2.2.1, fun _ _ _ _ _ _ _ _ _ _ _ _ _ _ _ => True)
def zQc (dC : Nat → ClassId) (dI : Nat → Nat → Nat) (dA : Nat → ClassId) (ad : Nat → Nat) (A : Nat → Prop) (n0 : Nat) (al : Bool) (Q : Option Value → zW → Prop) : Array Value → State → Outcome → State → Prop := fun _ st oc t =>
  (∃ (r : Option Value) (w' : zW) (ad' : Nat → Nat), oc = .returned (r.map (zv ad')) ∧ Q r w' ∧ (al = false → ad' = ad) ∧ (∀ k, (k < n0 ∨ zsent ≤ k) → ad' k = ad k) ∧ va_P (dC, dI) vwCl (zw dA ad' w') t.heap ∧ zKx dC dI dA t ∧ va_D A (zw dA ad' w')) ∧ va_F A st t
def zPc (dC : Nat → ClassId) (dI : Nat → Nat → Nat) (dA : Nat → ClassId) (ad : Nat → Nat) (as : List Value) (w : zW) (sz : Nat) : Array Value → State → Prop := va_Pc (as.map (zv ad)) (fun U => U.heap.size = sz ∧ va_P (dC, dI) vwCl (zw dA ad w) U.heap ∧ zKx dC dI dA U ∧ va_D (fun _ => True) (zw dA ad w))
/-- a method's contract: called with these arguments in this world, with room for d frames, it returns, and Q takes answer and world -/
def zK (d : Nat) (z : zMt) (as : List Value) (w : zW) (Q : Option Value → zW → Prop) : Prop :=
  ∀ (l0 : Launch), l0.stackTraces = false → ∀ (dC : Nat → ClassId) (dI : Nat → Nat → Nat) (dA : Nat → ClassId) (ad : Nat → Nat) (sz : Nat), Met l0 z.1 (zws z) (zrm d z) (zPc dC dI dA ad as w sz) (zQc dC dI dA ad (va_A (zw dA ad w) sz) w.length z.2.2.2.2.1 Q) z.2.2.2.2.2.1 z.2.2.2.2.2.2.1 (va_A (zw dA ad w) sz)
theorem zargs (ad : Nat → Nat) : ∀ (as : List Value) (i : Nat), lv_args i (as.map (zv ad)) = zl ad (lv_args i as)
  | [], _ => rfl
  | v :: vs, i => by
    simp only [List.map_cons, lv_args, zv_cat]
    rw [zargs ad vs]
    rfl
theorem zsl (ad : Nat → Nat) : ∀ as : List Value, (lg_sl (as.map (zv ad))).length = (lg_sl as).length
  | [] => rfl
  | v :: vs => by
    have ih := zsl ad vs
    unfold lg_sl at ih ⊢
    simp only [List.map_cons, List.flatMap_cons, List.length_append, zv_cat]
    rw [ih]
    split <;> rfl
set_option maxHeartbeats 1000000 in
theorem zK_of {d : Nat} {z : zMt} {as : List Value} {w : zW} {Q : Option Value → zW → Prop} (hq : zMok z) (hy : plainName z.1.cls = true) (hn : Nat.ble (lg_sl as).length z.2.2.1 = true) (h : zV (zMo d z) z.2.2.2.2.1 w.length 0 0 0 (lv_args 0 as) [] w Q) : zK d z as w Q := by
  intro l0 h9t dC dI dA ad sz
  refine Met.ofW (cc := z.2.1) (maxL := z.2.2.1) (ret := z.2.2.2.1) hy rfl ?_
  intro p e s m args below meth c s₁ B hml hv
  obtain ⟨rfl, hsz, hP, hK, hD0⟩ := hv
  have hts := atoms_spec (ws := zws z) B.pre
  have hown : s.vm.findClass z.1.cls = some m.cls := findClass_of_methodNamed B.named
  subst hsz
  have hD := hD0.self (sz := s.heap.size)
  have hA : ∀ q : Nat, s.heap.size ≤ q → va_A (zw dA ad w) s.heap.size q := fun q h => Or.inr h
  have hl := lv_entry (as.map (zv ad)) (n := z.2.2.1) (by rw [zsl]; exact Nat.le_of_ble_eq_true hn)
  rw [lg_entry_eq]
  generalize (lg_sl (as.map (zv ad)) ++ List.replicate (z.2.2.1 - (lg_sl (as.map (zv ad))).length) Slot.unset).toArray = ls at hl ⊢
  rw [zargs] at hl
  have hlk : meth.locks = false := B.notSynchronized
  have hr := B.returns
  refine h p l0 e s m (as.map (zv ad)).toArray below meth c dC dI dA ad (va_A (zw dA ad w) s.heap.size) (MQ below (zQc dC dI dA ad (va_A (zw dA ad w) s.heap.size) w.length z.2.2.2.2.1 Q) (as.map (zv ad)).toArray s z.2.2.2.2.2.1 z.2.2.2.2.2.2.1 (va_A (zw dA ad w) s.heap.size)) h9t ⟨B.exec, B.bytes, hml, hown, fun x hx => hts x (List.mem_cons_of_mem _ hx), hK, hA, fun hi => ?_, trivial⟩ ?_ ad s.heap [] ls ⟨fun _ => rfl, fun _ _ => rfl, hP, hD, va_S.rf⟩ hl
  · have h1 := (name_of_methodNamed B.named B.method).1
    have h2 : z.1.name = "<init>" := (hq.2.2.2.2.2 (Nat.eq_of_beq_eq_true hi)).2.1
    rw [h1, h2]
  · intro ad' H locs kc ks pc ls' v w' hrel hqq hkc hks hrt
    refine W.widen (k := z.2.2.2.2.2.1) (n := z.2.2.2.2.2.2.1) hkc hks ?_
    have fin : ∀ t : State, t.heap = H → s.WarmedH t.vm → zQc dC dI dA ad (va_A (zw dA ad w) s.heap.size) w.length z.2.2.2.2.1 Q (as.map (zv ad)).toArray s (.returned (v.map (zv ad'))) t := fun t ht hW =>
      ⟨⟨v, w', ad', rfl, hqq, hrel.1, hrel.2.1, by rw [ht]; exact hrel.2.2.1, zKx.moved hW.alike hK, hrel.2.2.2.1⟩, hrel.2.2.2.2.F ht⟩
    match v, hrt, fin with
    | none, hrt, fin => exact W.vret B.exec B.bytes (hr.trans hrt.1) fin hrel.2.2.2.2.2.2 hrt.2 hlk
    | some (.int x), hrt, fin =>
      rcases hrt with ⟨h1 | ⟨h1, h2⟩, h3⟩
      · exact W.iret B.exec B.bytes (hr.trans h1) fin hrel.2.2.2.2.2.2 h3 hlk
      · exact W.zret (ty := .boolean) B.exec B.bytes (hr.trans h1) (by rcases h2 with rfl | rfl <;> decide +kernel) fin hrel.2.2.2.2.2.2 h3 hlk
    | some (.long x), hrt, fin => exact W.lret B.exec B.bytes (hr.trans hrt.1) fin hrel.2.2.2.2.2.2 hrt.2 hlk
section ZC
variable {M : zM} {al : Bool} {n0 kc ks pc nxt a b : Nat} {c0 : Int} {l : zL} {st : List Value} {w : zW} {Q : Option Value → zW → Prop} {tb : List zE}
theorem zv_iret (ok : zTb M tb) {x : Int32} (hl : zlook tb pc = some (.ireturn, pc + 1, a, b, c0)) (hr : (M.2.2.2.2.2.1 = some .int) ∨ (M.2.2.2.2.2.1 = some .boolean ∧ (x = 0 ∨ x = 1))) (hk : kc ≤ M.2.2.2.2.1.cells) (hs : ks ≤ M.2.2.2.2.1.slots) (hq : Q (some (.int x)) w) : zV M al n0 kc ks pc l [.int x] w Q := by
  intro p l0 e s m args below meth c dC dI dA ad0 A Z h9t hctx hfin ad H locs ls hrel hlv
  obtain ⟨F, hF, ok⟩ := ok
  have h1 := ok _ (zlook_mem hl)
  simp only [zgood, Bool.and_eq_true, decide_eq_true_eq, Nat.add_sub_cancel_left] at h1
  exact hfin ad H locs kc ks pc ls (some (.int x)) w hrel hq hk hs ⟨hr, h1.1.1⟩
theorem zv_lret (ok : zTb M tb) {x : Int64} (hl : zlook tb pc = some (.lreturn, pc + 1, a, b, c0)) (hr : M.2.2.2.2.2.1 = some .long) (hk : kc ≤ M.2.2.2.2.1.cells) (hs : ks ≤ M.2.2.2.2.1.slots) (hq : Q (some (.long x)) w) : zV M al n0 kc ks pc l [.long x] w Q := by
  intro p l0 e s m args below meth c dC dI dA ad0 A Z h9t hctx hfin ad H locs ls hrel hlv
  obtain ⟨F, hF, ok⟩ := ok
  have h1 := ok _ (zlook_mem hl)
  simp only [zgood, Bool.and_eq_true, decide_eq_true_eq, Nat.add_sub_cancel_left] at h1
  exact hfin ad H locs kc ks pc ls (some (.long x)) w hrel hq hk hs ⟨hr, h1.1.1⟩
theorem zv_ret (ok : zTb M tb) (hl : zlook tb pc = some (.return_, pc + 1, a, b, c0)) (hr : M.2.2.2.2.2.1 = none) (hk : kc ≤ M.2.2.2.2.1.cells) (hs : ks ≤ M.2.2.2.2.1.slots) (hq : Q none w) : zV M al n0 kc ks pc l [] w Q := by
  intro p l0 e s m args below meth c dC dI dA ad0 A Z h9t hctx hfin ad H locs ls hrel hlv
  obtain ⟨F, hF, ok⟩ := ok
  have h1 := ok _ (zlook_mem hl)
  simp only [zgood, Bool.and_eq_true, decide_eq_true_eq, Nat.add_sub_cancel_left] at h1
  exact hfin ad H locs kc ks pc ls none w hrel hq hk hs ⟨hr, h1.1.1⟩
theorem zv_mono {Q' : Option Value → zW → Prop} (h : zV M al n0 kc ks pc l st w Q) (hq : ∀ r w', Q r w' → Q' r w') : zV M al n0 kc ks pc l st w Q' := by
  intro p l0 e s m args below meth c dC dI dA ad0 A Z h9t hctx hfin
  exact h p l0 e s m args below meth c dC dI dA ad0 A Z h9t hctx (fun ad H locs kc ks pc ls v w h1 h2 => hfin ad H locs kc ks pc ls v w h1 (hq v w h2))
end ZC
section ZA
variable {p : Program} {l0 : Launch} {e : Env} {R : Room} {s : State} {m : MethodId} {args : Array Value} {below : List Frame} {meth : Method} {c : Code} {H H0 : Heap} {locs : List Loc} {cells slots mc ms pc n : Nat} {Z : State → Prop} {ls : Array Slot} {st0 rest : List Value} {dC : Nat → ClassId} {dI : Nat → Nat → Nat} {dA : Nat → ClassId} {ad : Nat → Nat} {A : Nat → Prop} {w : zW} {al : Bool} {Qc : Option Value → zW → Prop} {a : Array Value}
theorem zafter (hr : va_Run p l0 e R s m args below meth c H locs cells slots mc ms (F0 m pc ls st0) rest (zQc dC dI dA ad (va_A (zw dA ad w) H.size) n al Qc a) (va_A (zw dA ad w) H.size)) (hD : va_D A (zw dA ad w)) (hS : va_S A H0 H locs) (hA : ∀ q, H0.size ≤ q → A q)
    (kk : ∀ (r : Option Value) (w' : zW) (ad' : Nat → Nat) (H1 : Heap) (locs1 : List Loc), Qc r w' → (al = false → ad' = ad) → (∀ k, (k < n ∨ zsent ≤ k) → ad' k = ad k) → va_P (dC, dI) vwCl (zw dA ad' w') H1 → va_D A (zw dA ad' w') → va_S A H0 H1 locs1 → W p l0 e R s m args below meth c H1 locs1 (cells + mc) (slots + ms) Z (F0 m (pc + 3) ls ((r.map (zv ad')).toList ++ rest))) : W p l0 e R s m args below meth c H locs cells slots Z (F0 m pc ls st0) := by
  have hF : ∀ q, va_A (zw dA ad w) H.size q → A q := fun q h => by
    rcases h with ⟨k, x, h⟩ | h
    · exact hD.2 k _ h
    · exact hA q (Nat.le_trans hS.1 h)
  intro T hT X
  obtain ⟨v, st₀, t, T', L, h0, X', hL, e1, e2, ⟨⟨r, w', ad', hv, hq, hal, had, hP, hK, hD'⟩, hz, hk⟩, st⟩ := hr T hT X
  cases hv
  rw [h0] at hz hk
  obtain ⟨t2, a1, b1⟩ := kk r w' ad' T'.heap (locs ++ L) hq hal had (by rw [e1]; exact hP) (hD'.weaken (fun _ _ _ h => hF _ h))
    ⟨Nat.le_trans hS.1 (by rw [e1]; exact hz), fun q h1 h2 => by rw [e1, hk q (Nat.lt_of_lt_of_le h1 hS.1) (fun z => h2 (hF q z))]; exact hS.2.1 q h1 h2, fun q hq => by
      rcases List.mem_append.mp hq with h | h
      · exact hS.2.2 q h
      · exact hF _ (hL q h)⟩ T' rfl X'
  exact ⟨t2, st t2 a1, b1⟩
end ZA
theorem zgoodIn (z : zMt) (h : Cond.code z.1 z.2.1 z.2.2.1 z.2.2.2.1 ∈ zG) : GoodIn zG (zws z) := fun x hx => by
  rcases List.mem_cons.mp hx with rfl | hx
  · exact ⟨h, good_of_word (zG_good h)⟩
  · exact ⟨hx, good_of_word (zG_good hx)⟩
theorem zblind (dC : Nat → ClassId) (dI : Nat → Nat → Nat) (dA : Nat → ClassId) (ad : Nat → Nat) (as : List Value) (w : zW) (sz : Nat) : FrameBlind (zPc dC dI dA ad as w sz) := fun a U g mk q => by
  obtain ⟨q0, q1, qP, qK, qD⟩ := q
  exact ⟨q0, q1, qP, zKx.moved (u := U) (U := U.calling g mk a) (Vm.Alike.refl U.vm) qK, qD⟩
theorem zcats (ad : Nat → Nat) : ∀ r : List Value, ((r.map (zv ad)).map fun v => v.category).sum = (r.map fun v => v.category).sum
  | [] => rfl
  | v :: r => by
    simp only [List.map_cons, List.sum_cons, zv_cat]
    have := zcats ad r
    simp only [List.map_map] at this ⊢
    rw [this]
