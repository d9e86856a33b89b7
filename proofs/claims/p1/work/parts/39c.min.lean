set_option maxRecDepth 100000 in
theorem zMinL : Cond.methodLink RX6 299 Lib.MathLoose.min_long.x ∈ zG ∧ Cond.static Lib.MathLoose.min_long.x ∈ zG ∧ Cond.initialized "java/lang/Math" ∈ zG ∧ Cond.code Lib.MathLoose.min_long.x Lib.MathLoose.min_long.code 4 (some .long) ∈ zG := ⟨zmemT 463 rfl rfl, zmemT 464 rfl rfl, zmemT 9 rfl rfl, zmemT 465 rfl rfl⟩
section ZM
variable {M : zM} {al : Bool} {n0 kc ks pc a b : Nat} {c0 : Int} {l : zL} {rest : List Value} {w : zW} {Q : Option Value → zW → Prop} {tb : List zE}
theorem zv_minJ (ok : zTb M tb) {idx : Nat} (hlook : zlook tb pc = some (.invokestatic idx, pc + 3, a, b, c0)) (hm : Cond.methodLink M.1 idx Lib.MathLoose.min_long.x ∈ zG ∧ Cond.static Lib.MathLoose.min_long.x ∈ zG ∧ Cond.initialized "java/lang/Math" ∈ zG ∧ Cond.code Lib.MathLoose.min_long.x Lib.MathLoose.min_long.code 4 (some .long) ∈ zG) (hcat : Nat.ble (rest.map fun v => v.category).sum 8 = true) (hR : 1 ≤ M.2.2.2.2.1.frames ∧ 23 ≤ M.2.2.2.2.1.locals) (hf : kc ≤ M.2.2.2.2.1.cells ∧ ks ≤ M.2.2.2.2.1.slots) {x y : Int64}
    (kk : zV M al n0 kc ks (pc + 3) l (.long (if y < x then y else x) :: rest) w Q) : zV M al n0 kc ks pc l (.long y :: .long x :: rest) w Q := by
  intro p l0 e s m args below meth c dC dI dA ad0 A Z h9t hctx hfin ad H locs ls hrel hl
  obtain ⟨F, hF, ok⟩ := ok
  have h0 := ok _ (zlook_mem hlook)
  simp only [zgood, Bool.and_eq_true, decide_eq_true_eq, Nat.add_sub_cancel_left] at h0
  have k9 := kk p l0 e s m args below meth c dC dI dA ad0 A Z h9t hctx hfin ad H locs ls hrel hl
  obtain ⟨hx, hbb, hml, hown, hts, hKc, hA, hxn⟩ := id hctx
  refine va_mmin_long (rest := rest.map (zv ad)) hx hbb (hml.trans hl.1.symm) hown (hts _ hm.1) (hts _ hm.2.1) (hts _ hm.2.2.1) (hts _ hm.2.2.2) hR.1 ?_ hf.1 hf.2 h0.1.1 k9
  rw [zcats]
  have := Nat.le_of_ble_eq_true hcat
  omega
end ZM
