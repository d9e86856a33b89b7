set_option maxHeartbeats 4000000 in
set_option maxRecDepth 20000 in
theorem hTally (a b c : Int32) : zK 0 zX0_tally [.ref 31, .int a, .int b, .int c] w0 (fun r w' => r = some (.long 0) ∧ ∀ j, 76 ≤ j → w'[j]? = w0[j]?) := by
  refine zK_of qX0_tally (by decide +kernel) rfl ?_
  repeat' (first
    | refine zv_step (bX0_tally 0) rfl rfl trivial ?_
    | (dsimp only; split)
    | refine zv_lret (bX0_tally 0) rfl rfl (Nat.zero_le _) (Nat.zero_le _) ?_)
  all_goals first | exact ⟨rfl, fun j hj => by repeat rw [List.getElem?_set_ne (by omega)]⟩ | (exfalso; (try simp only [lg_cmp_lt, lg_cmp_gt, lg_cmp_ge, lg_cmp_le, lg_cmp_eq] at *); (try simp only [Int32.lt_iff_toInt_lt, Int32.le_iff_toInt_le, Int64.lt_iff_toInt_lt, Int64.le_iff_toInt_le, Int32.toInt_toInt64, lg_cmp_lt, lg_cmp_gt, lg_cmp_ge, lg_cmp_le, i8c, i16c, i32c, i64c, l0c, l1c, z32, i8e, i32e, Decidable.not_not, Int.reduceNeg, Int.reduceLE, Int.reduceLT, and_self, Int32.toInt_zero, Int.not_lt, Int.not_le] at *); omega) | (rename_i hz; exact absurd (by decide) hz)

theorem hMinC : ¬ Int64.ofInt 1000000000000000 < 0 := by
  rw [Int64.lt_iff_toInt_lt, i64c _ (by decide), Int64.toInt_zero]
  decide
set_option maxHeartbeats 4000000 in
set_option maxRecDepth 20000 in
theorem hTallyIn (p1 : Int32) (hp : 0 ≤ p1.toInt ∧ p1.toInt ≤ 8) : zK 1 zX6_tallyIn [.ref 0, .int p1] w0 (fun r w' => r = some (.long 0) ∧ ∀ j, 76 ≤ j → w'[j]? = w0[j]?) := by
  refine zK_of qX6_tallyIn (by decide +kernel) rfl ?_
  by_cases h8 : p1 = (Int8.ofInt 8).toInt32
  · subst h8
    repeat (refine zv_step (bX6_tallyIn 1) rfl rfl trivial ?_)
    refine zv_V3 (bX6_tallyIn 1) rfl rfl rfl rfl rfl rfl rfl ⟨rfl, rfl, rfl⟩ ⟨by decide, by decide⟩ ⟨Nat.zero_le _, Nat.zero_le _⟩ (hTally _ _ _) ?_
    rintro _ _ ⟨rfl, hw1⟩
    repeat (refine zv_step (bX6_tallyIn 1) rfl rfl trivial ?_)
    refine zv_minJ (bX6_tallyIn 1) rfl zMinL rfl ⟨by decide, by decide⟩ ⟨Nat.zero_le _, Nat.zero_le _⟩ ?_
    rw [if_neg hMinC]
    exact zv_lret (bX6_tallyIn 1) rfl rfl (Nat.zero_le _) (Nat.zero_le _) ⟨rfl, hw1⟩
  · repeat (refine zv_step (bX6_tallyIn 1) rfl rfl trivial ?_)
    dsimp only
    rw [if_pos h8]
    repeat (refine zv_step (bX6_tallyIn 1) rfl rfl trivial ?_)
    have h9 : p1.toInt ≠ 8 := fun q => h8 ((i8e p1 8 (by decide)).mpr q)
    refine zv_step (bX6_tallyIn 1) rfl rfl (vp_in_iff.mpr ⟨hp.1, by show p1.toInt < 8; omega⟩) ?_
    repeat (refine zv_step (bX6_tallyIn 1) rfl rfl trivial ?_)
    dsimp only
    rw [if_pos h8]
    repeat (refine zv_step (bX6_tallyIn 1) rfl rfl trivial ?_)
    refine zv_V3 (bX6_tallyIn 1) rfl rfl rfl rfl rfl rfl rfl ⟨rfl, rfl, rfl⟩ ⟨by decide, by decide⟩ ⟨Nat.zero_le _, Nat.zero_le _⟩ (hTally _ _ _) ?_
    rintro _ _ ⟨rfl, hw1⟩
    repeat (refine zv_step (bX6_tallyIn 1) rfl rfl trivial ?_)
    refine zv_minJ (bX6_tallyIn 1) rfl zMinL rfl ⟨by decide, by decide⟩ ⟨Nat.zero_le _, Nat.zero_le _⟩ ?_
    rw [if_neg hMinC]
    exact zv_lret (bX6_tallyIn 1) rfl rfl (Nat.zero_le _) (Nat.zero_le _) ⟨rfl, hw1⟩
