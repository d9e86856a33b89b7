set_option maxHeartbeats 4000000 in
set_option maxRecDepth 20000 in
theorem hTally (a b c : Int32) : zK 0 zX0_tally [.ref 31, .int a, .int b, .int c] w0 (fun r w' => r = some (.long 0) ∧ ∀ j, 76 ≤ j → w'[j]? = w0[j]?) := by
  refine zK_of qX0_tally (by decide +kernel) rfl ?_
  repeat' (first
    | refine zv_step (bX0_tally 0) rfl rfl trivial ?_
    | (dsimp only; split)
    | refine zv_lret (bX0_tally 0) rfl rfl (Nat.zero_le _) (Nat.zero_le _) ?_)
  all_goals first | exact ⟨rfl, fun j hj => by repeat rw [List.getElem?_set_ne (by omega)]⟩ | (exfalso; (try simp only [lg_cmp_lt, lg_cmp_gt, lg_cmp_ge, lg_cmp_le, lg_cmp_eq] at *); (try simp only [Int32.lt_iff_toInt_lt, Int32.le_iff_toInt_le, Int64.lt_iff_toInt_lt, Int64.le_iff_toInt_le, Int32.toInt_toInt64, lg_cmp_lt, lg_cmp_gt, lg_cmp_ge, lg_cmp_le, i8c, i16c, i32c, i64c, l0c, l1c, z32, i8e, i32e, Decidable.not_not, Int.reduceNeg, Int.reduceLE, Int.reduceLT, and_self, Int32.toInt_zero, Int.not_lt, Int.not_le] at *); omega) | (rename_i hz; exact absurd (by decide) hz)

set_option maxHeartbeats 4000000 in
set_option maxRecDepth 20000 in
theorem hMin (w : zW) (a b : Int64) : zK 0 zJ9_min_f86c9 [.long a, .long b] w (fun r w' => w' = w ∧ ((0 < lg_cmp a b ∧ r = some (.long b)) ∨ (¬ 0 < lg_cmp a b ∧ r = some (.long a)))) := by
  refine zK_of qJ9_min_f86c9 (by decide +kernel) rfl ?_
  repeat' (first
    | refine zv_step (bJ9_min_f86c9 0) rfl rfl trivial ?_
    | (dsimp only; split)
    | refine zv_lret (bJ9_min_f86c9 0) rfl rfl (Nat.zero_le _) (Nat.zero_le _) ?_)
  all_goals first | exact ⟨rfl, Or.inl ⟨by assumption, rfl⟩⟩ | exact ⟨rfl, Or.inr ⟨by assumption, rfl⟩⟩ | (exfalso; (try simp only [lg_cmp_lt, lg_cmp_gt, lg_cmp_ge, lg_cmp_le, lg_cmp_eq] at *); (try simp only [Int32.lt_iff_toInt_lt, Int32.le_iff_toInt_le, Int64.lt_iff_toInt_lt, Int64.le_iff_toInt_le, Int32.toInt_toInt64, lg_cmp_lt, lg_cmp_gt, lg_cmp_ge, lg_cmp_le, i8c, i16c, i32c, i64c, l0c, l1c, z32, i8e, i32e, Decidable.not_not, Int.reduceNeg, Int.reduceLE, Int.reduceLT, and_self, Int32.toInt_zero, Int.not_lt, Int.not_le] at *); omega) | (rename_i hz; exact absurd (by decide) hz)

theorem hMinC : ¬ 0 < lg_cmp 0 (Int64.ofInt 1000000000000000) := by
  rw [lg_cmp_gt, Int64.lt_iff_toInt_lt, i64c _ (by decide), Int64.toInt_zero]
  decide
set_option maxHeartbeats 4000000 in
set_option maxRecDepth 20000 in
theorem hTallyIn (p1 : Int32) (hp : 0 ≤ p1.toInt ∧ p1.toInt ≤ 8) : zK 1 zX6_tallyIn [.ref 0, .int p1] w0 (fun r w' => r = some (.long 0) ∧ ∀ j, 76 ≤ j → w'[j]? = w0[j]?) := by
  refine zK_of qX6_tallyIn (by decide +kernel) rfl ?_
  repeat' (first
    | refine zv_step (bX6_tallyIn 1) rfl rfl trivial ?_
    | (dsimp only; split)
    | (refine zv_V3 (bX6_tallyIn 1) rfl rfl rfl rfl rfl rfl rfl ⟨rfl, rfl, rfl⟩ ⟨by decide, by decide⟩ ⟨Nat.zero_le _, Nat.zero_le _⟩ (hTally _ _ _) ?_; rintro _ _ ⟨rfl, hw1⟩)
    | (refine zv_S2 (bX6_tallyIn 1) rfl rfl rfl rfl ⟨rfl, rfl, rfl⟩ ⟨by decide, by decide⟩ ⟨Nat.zero_le _, Nat.zero_le _⟩ (hMin _ _ _) ?_; rintro _ _ ⟨rfl, ⟨hm, rfl⟩ | ⟨hm, rfl⟩⟩)
    | refine zv_step (bX6_tallyIn 1) rfl rfl (vp_in_iff.mpr (by first | decide | ((try simp only [lg_cmp_lt, lg_cmp_gt, lg_cmp_ge, lg_cmp_le, lg_cmp_eq] at *); (try simp only [Int32.lt_iff_toInt_lt, Int32.le_iff_toInt_le, Int64.lt_iff_toInt_lt, Int64.le_iff_toInt_le, Int32.toInt_toInt64, lg_cmp_lt, lg_cmp_gt, lg_cmp_ge, lg_cmp_le, i8c, i16c, i32c, i64c, l0c, l1c, z32, i8e, i32e, Decidable.not_not, Int.reduceNeg, Int.reduceLE, Int.reduceLT, and_self, Int32.toInt_zero, Int.not_lt, Int.not_le] at *); omega))) ?_
    | refine zv_lret (bX6_tallyIn 1) rfl rfl (Nat.zero_le _) (Nat.zero_le _) ?_)
  all_goals first | exact absurd hm hMinC | exact ⟨rfl, hw1⟩ | (exfalso; (try simp only [lg_cmp_lt, lg_cmp_gt, lg_cmp_ge, lg_cmp_le, lg_cmp_eq] at *); (try simp only [Int32.lt_iff_toInt_lt, Int32.le_iff_toInt_le, Int64.lt_iff_toInt_lt, Int64.le_iff_toInt_le, Int32.toInt_toInt64, lg_cmp_lt, lg_cmp_gt, lg_cmp_ge, lg_cmp_le, i8c, i16c, i32c, i64c, l0c, l1c, z32, i8e, i32e, Decidable.not_not, Int.reduceNeg, Int.reduceLE, Int.reduceLT, and_self, Int32.toInt_zero, Int.not_lt, Int.not_le] at *); omega) | (rename_i hz; exact absurd (by decide) hz)

set_option maxHeartbeats 8000000 in
set_option maxRecDepth 20000 in
theorem cX_write (p1 : Int32) (p2 : Int64) : zK 3 zX6_write [.ref 0, .int p1, .long p2] w0 (fun r w' => (∃ a, r = some (.int a) ∧ R_write p1 p2 a) ∧ ∀ j, 76 ≤ j → w'[j]? = w0[j]?) := by
  refine zK_of qX6_write (by decide +kernel) rfl ?_
  repeat' (first
    | refine zv_step (bX6_write 3) rfl rfl trivial ?_
    | (dsimp only; split)
    | (refine zv_S1 (bX6_write 3) rfl rfl rfl rfl ⟨rfl, rfl, rfl⟩ ⟨by decide, by decide⟩ ⟨Nat.zero_le _, Nat.zero_le _⟩ (hX6_isStyleOrFree _ _) ?_; rintro _ _ ⟨rfl, ⟨hh, rfl⟩ | ⟨hh, rfl⟩⟩)
    | (refine zv_V1 (bX6_write 3) rfl rfl rfl rfl rfl rfl rfl ⟨rfl, rfl, rfl⟩ ⟨by decide, by decide⟩ ⟨Nat.zero_le _, Nat.zero_le _⟩ (hTallyIn _ (by assumption)) ?_; rintro _ _ ⟨rfl, hw1⟩)
    | refine zv_iret (bX6_write 3) rfl (Or.inl rfl) (Nat.zero_le _) (Nat.zero_le _) ?_)
  all_goals first | exact ⟨⟨_, rfl, Or.inl (⟨(by first | decide | ((try simp only [lg_cmp_lt, lg_cmp_gt, lg_cmp_ge, lg_cmp_le, lg_cmp_eq] at *); (try simp only [Int32.lt_iff_toInt_lt, Int32.le_iff_toInt_le, Int64.lt_iff_toInt_lt, Int64.le_iff_toInt_le, Int32.toInt_toInt64, lg_cmp_lt, lg_cmp_gt, lg_cmp_ge, lg_cmp_le, i8c, i16c, i32c, i64c, l0c, l1c, z32, i8e, i32e, Decidable.not_not, Int.reduceNeg, Int.reduceLE, Int.reduceLT, and_self, Int32.toInt_zero, Int.not_lt, Int.not_le] at *); omega)), rfl⟩)⟩, fun j hj => rfl⟩ | exact ⟨⟨_, rfl, Or.inl (⟨(by first | decide | ((try simp only [lg_cmp_lt, lg_cmp_gt, lg_cmp_ge, lg_cmp_le, lg_cmp_eq] at *); (try simp only [Int32.lt_iff_toInt_lt, Int32.le_iff_toInt_le, Int64.lt_iff_toInt_lt, Int64.le_iff_toInt_le, Int32.toInt_toInt64, lg_cmp_lt, lg_cmp_gt, lg_cmp_ge, lg_cmp_le, i8c, i16c, i32c, i64c, l0c, l1c, z32, i8e, i32e, Decidable.not_not, Int.reduceNeg, Int.reduceLE, Int.reduceLT, and_self, Int32.toInt_zero, Int.not_lt, Int.not_le] at *); omega)), rfl⟩)⟩, hw1⟩ | exact ⟨⟨_, rfl, Or.inr (⟨(by first | decide | ((try simp only [lg_cmp_lt, lg_cmp_gt, lg_cmp_ge, lg_cmp_le, lg_cmp_eq] at *); (try simp only [Int32.lt_iff_toInt_lt, Int32.le_iff_toInt_le, Int64.lt_iff_toInt_lt, Int64.le_iff_toInt_le, Int32.toInt_toInt64, lg_cmp_lt, lg_cmp_gt, lg_cmp_ge, lg_cmp_le, i8c, i16c, i32c, i64c, l0c, l1c, z32, i8e, i32e, Decidable.not_not, Int.reduceNeg, Int.reduceLE, Int.reduceLT, and_self, Int32.toInt_zero, Int.not_lt, Int.not_le] at *); omega)), rfl⟩)⟩, fun j hj => rfl⟩ | exact ⟨⟨_, rfl, Or.inr (⟨(by first | decide | ((try simp only [lg_cmp_lt, lg_cmp_gt, lg_cmp_ge, lg_cmp_le, lg_cmp_eq] at *); (try simp only [Int32.lt_iff_toInt_lt, Int32.le_iff_toInt_le, Int64.lt_iff_toInt_lt, Int64.le_iff_toInt_le, Int32.toInt_toInt64, lg_cmp_lt, lg_cmp_gt, lg_cmp_ge, lg_cmp_le, i8c, i16c, i32c, i64c, l0c, l1c, z32, i8e, i32e, Decidable.not_not, Int.reduceNeg, Int.reduceLE, Int.reduceLT, and_self, Int32.toInt_zero, Int.not_lt, Int.not_le] at *); omega)), rfl⟩)⟩, hw1⟩ | exact absurd (by decide) hh | (exfalso; (try simp only [lg_cmp_lt, lg_cmp_gt, lg_cmp_ge, lg_cmp_le, lg_cmp_eq] at *); (try simp only [Int32.lt_iff_toInt_lt, Int32.le_iff_toInt_le, Int64.lt_iff_toInt_lt, Int64.le_iff_toInt_le, Int32.toInt_toInt64, lg_cmp_lt, lg_cmp_gt, lg_cmp_ge, lg_cmp_le, i8c, i16c, i32c, i64c, l0c, l1c, z32, i8e, i32e, Decidable.not_not, Int.reduceNeg, Int.reduceLE, Int.reduceLT, and_self, Int32.toInt_zero, Int.not_lt, Int.not_le] at *); omega) | (rename_i hz; exact absurd (by decide) hz)

set_option maxHeartbeats 8000000 in
set_option maxRecDepth 20000 in
theorem cX_doubt (p1 : Int32) (p2 p3 : Int64) : zK 3 zX6_doubt [.ref 0, .int p1, .long p2, .long p3] w0 (fun r w' => (∃ a, r = some (.int a) ∧ R_doubt p1 p2 p3 a) ∧ ∀ j, 76 ≤ j → w'[j]? = w0[j]?) := by
  refine zK_of qX6_doubt (by decide +kernel) rfl ?_
  repeat' (first
    | refine zv_step (bX6_doubt 3) rfl rfl trivial ?_
    | (dsimp only; split)
    | (refine zv_S1 (bX6_doubt 3) rfl rfl rfl rfl ⟨rfl, rfl, rfl⟩ ⟨by decide, by decide⟩ ⟨Nat.zero_le _, Nat.zero_le _⟩ (hX6_isStyleOrFree _ _) ?_; rintro _ _ ⟨rfl, ⟨hh, rfl⟩ | ⟨hh, rfl⟩⟩)
    | (refine zv_V1 (bX6_doubt 3) rfl rfl rfl rfl rfl rfl rfl ⟨rfl, rfl, rfl⟩ ⟨by decide, by decide⟩ ⟨Nat.zero_le _, Nat.zero_le _⟩ (hTallyIn _ (by assumption)) ?_; rintro _ _ ⟨rfl, hw1⟩)
    | refine zv_iret (bX6_doubt 3) rfl (Or.inl rfl) (Nat.zero_le _) (Nat.zero_le _) ?_)
  all_goals first | exact ⟨⟨_, rfl, Or.inl (⟨(by first | decide | ((try simp only [lg_cmp_lt, lg_cmp_gt, lg_cmp_ge, lg_cmp_le, lg_cmp_eq] at *); (try simp only [Int32.lt_iff_toInt_lt, Int32.le_iff_toInt_le, Int64.lt_iff_toInt_lt, Int64.le_iff_toInt_le, Int32.toInt_toInt64, lg_cmp_lt, lg_cmp_gt, lg_cmp_ge, lg_cmp_le, i8c, i16c, i32c, i64c, l0c, l1c, z32, i8e, i32e, Decidable.not_not, Int.reduceNeg, Int.reduceLE, Int.reduceLT, and_self, Int32.toInt_zero, Int.not_lt, Int.not_le] at *); omega)), rfl⟩)⟩, fun j hj => rfl⟩ | exact ⟨⟨_, rfl, Or.inl (⟨(by first | decide | ((try simp only [lg_cmp_lt, lg_cmp_gt, lg_cmp_ge, lg_cmp_le, lg_cmp_eq] at *); (try simp only [Int32.lt_iff_toInt_lt, Int32.le_iff_toInt_le, Int64.lt_iff_toInt_lt, Int64.le_iff_toInt_le, Int32.toInt_toInt64, lg_cmp_lt, lg_cmp_gt, lg_cmp_ge, lg_cmp_le, i8c, i16c, i32c, i64c, l0c, l1c, z32, i8e, i32e, Decidable.not_not, Int.reduceNeg, Int.reduceLE, Int.reduceLT, and_self, Int32.toInt_zero, Int.not_lt, Int.not_le] at *); omega)), rfl⟩)⟩, hw1⟩ | exact ⟨⟨_, rfl, Or.inr (⟨(by first | decide | ((try simp only [lg_cmp_lt, lg_cmp_gt, lg_cmp_ge, lg_cmp_le, lg_cmp_eq] at *); (try simp only [Int32.lt_iff_toInt_lt, Int32.le_iff_toInt_le, Int64.lt_iff_toInt_lt, Int64.le_iff_toInt_le, Int32.toInt_toInt64, lg_cmp_lt, lg_cmp_gt, lg_cmp_ge, lg_cmp_le, i8c, i16c, i32c, i64c, l0c, l1c, z32, i8e, i32e, Decidable.not_not, Int.reduceNeg, Int.reduceLE, Int.reduceLT, and_self, Int32.toInt_zero, Int.not_lt, Int.not_le] at *); omega)), rfl⟩)⟩, fun j hj => rfl⟩ | exact ⟨⟨_, rfl, Or.inr (⟨(by first | decide | ((try simp only [lg_cmp_lt, lg_cmp_gt, lg_cmp_ge, lg_cmp_le, lg_cmp_eq] at *); (try simp only [Int32.lt_iff_toInt_lt, Int32.le_iff_toInt_le, Int64.lt_iff_toInt_lt, Int64.le_iff_toInt_le, Int32.toInt_toInt64, lg_cmp_lt, lg_cmp_gt, lg_cmp_ge, lg_cmp_le, i8c, i16c, i32c, i64c, l0c, l1c, z32, i8e, i32e, Decidable.not_not, Int.reduceNeg, Int.reduceLE, Int.reduceLT, and_self, Int32.toInt_zero, Int.not_lt, Int.not_le] at *); omega)), rfl⟩)⟩, hw1⟩ | exact absurd (by decide) hh | (exfalso; (try simp only [lg_cmp_lt, lg_cmp_gt, lg_cmp_ge, lg_cmp_le, lg_cmp_eq] at *); (try simp only [Int32.lt_iff_toInt_lt, Int32.le_iff_toInt_le, Int64.lt_iff_toInt_lt, Int64.le_iff_toInt_le, Int32.toInt_toInt64, lg_cmp_lt, lg_cmp_gt, lg_cmp_ge, lg_cmp_le, i8c, i16c, i32c, i64c, l0c, l1c, z32, i8e, i32e, Decidable.not_not, Int.reduceNeg, Int.reduceLE, Int.reduceLT, and_self, Int32.toInt_zero, Int.not_lt, Int.not_le] at *); omega) | (rename_i hz; exact absurd (by decide) hz)

set_option maxHeartbeats 4000000 in
set_option maxRecDepth 20000 in
theorem cX_place (p1 p2 : Int32) : zK 3 zX6_place [.ref 0, .int p1, .int p2] w0 (fun r w' => r = some (.long (-1)) ∧ ∀ j, 76 ≤ j → w'[j]? = w0[j]?) := by
  refine zK_of qX6_place (by decide +kernel) rfl ?_
  repeat' (first
    | refine zv_step (bX6_place 3) rfl rfl trivial ?_
    | (dsimp only; split)
    | (refine zv_S1 (bX6_place 3) rfl rfl rfl rfl ⟨rfl, rfl, rfl⟩ ⟨by decide, by decide⟩ ⟨Nat.zero_le _, Nat.zero_le _⟩ (hX6_isStyleOrFree _ _) ?_; rintro _ _ ⟨rfl, ⟨hh, rfl⟩ | ⟨hh, rfl⟩⟩)
    | (refine zv_V1 (bX6_place 3) rfl rfl rfl rfl rfl rfl rfl ⟨rfl, rfl, rfl⟩ ⟨by decide, by decide⟩ ⟨Nat.zero_le _, Nat.zero_le _⟩ (hHas _) ?_; rintro _ _ ⟨rfl, rfl⟩)
    | refine zv_lret (bX6_place 3) rfl rfl (Nat.zero_le _) (Nat.zero_le _) ?_)
  all_goals first | exact ⟨rfl, fun j hj => rfl⟩ | (exfalso; (try simp only [lg_cmp_lt, lg_cmp_gt, lg_cmp_ge, lg_cmp_le, lg_cmp_eq] at *); (try simp only [Int32.lt_iff_toInt_lt, Int32.le_iff_toInt_le, Int64.lt_iff_toInt_lt, Int64.le_iff_toInt_le, Int32.toInt_toInt64, lg_cmp_lt, lg_cmp_gt, lg_cmp_ge, lg_cmp_le, i8c, i16c, i32c, i64c, l0c, l1c, z32, i8e, i32e, Decidable.not_not, Int.reduceNeg, Int.reduceLE, Int.reduceLT, and_self, Int32.toInt_zero, Int.not_lt, Int.not_le] at *); omega) | (rename_i hz; exact absurd (by decide) hz)


