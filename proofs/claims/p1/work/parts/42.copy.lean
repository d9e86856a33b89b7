set_option maxHeartbeats 800000 in
set_option maxRecDepth 20000 in
theorem cX_copy_11 (p1 p2 p3 p4 p5 : Int32) (x1 : (0 ≤ p1.toInt ∧ p1.toInt ≤ 7)) (x2 : (0 ≤ p3.toInt ∧ p3.toInt ≤ 7)) : zK 3 zX6_copy [.ref 0, .int p1, .int p2, .int p3, .int p4, .int p5] w0 (fun r w' => (∃ a, r = some (.int a) ∧ R_copy p1 p2 p3 p4 p5 a) ∧ ∀ j, 76 ≤ j → w'[j]? = w0[j]?) := by
  refine zK_of qX6_copy (by decide +kernel) rfl ?_
  all_goals obtain ⟨s1, r1, l1, g1, c1⟩ := shelf_at x1
  all_goals obtain ⟨s2, r2, l2, g2, c2⟩ := shelf_at x2
  repeat' (first
    | refine zv_ift (by decide) ?_
    | refine zv_iff (by decide) ?_
    | (refine zv_ifb (fun hc => ?_) (fun hc => ?_) <;> try (exfalso; (try simp only [lg_cmp_lt, lg_cmp_gt, lg_cmp_ge, lg_cmp_le, lg_cmp_eq] at *); (try simp only [Int32.lt_iff_toInt_lt, Int32.le_iff_toInt_le, Int64.lt_iff_toInt_lt, Int64.le_iff_toInt_le, Int32.toInt_toInt64, lg_cmp_lt, lg_cmp_gt, lg_cmp_ge, lg_cmp_le, i8c, i16c, i32c, i64c, l0c, l1c, z32, i8e, i32e, Decidable.not_not, Int.reduceNeg, Int.reduceLE, Int.reduceLT, and_self, Int32.toInt_zero, Int.not_lt, Int.not_le] at *); omega; done))
    | refine zv_getf (bX6_copy 3) rfl c1 rfl ?_
    | refine zv_getf (bX6_copy 3) rfl c2 rfl ?_
    | refine zv_aald (bX6_copy 3) rfl (Or.inl rfl) rfl (vp_in_iff.mpr ⟨x1.1, Int.lt_of_le_of_lt x1.2 (by decide)⟩) g1 ?_
    | refine zv_aald (bX6_copy 3) rfl (Or.inl rfl) rfl (vp_in_iff.mpr ⟨x2.1, Int.lt_of_le_of_lt x2.2 (by decide)⟩) g2 ?_
    | refine zv_step (bX6_copy 3) rfl rfl trivial ?_
    | (refine zv_S1 (bX6_copy 3) rfl rfl rfl rfl ⟨rfl, rfl, rfl⟩ ⟨by decide, by decide⟩ ⟨Nat.zero_le _, Nat.zero_le _⟩ (hX6_isShelf _ _) ?_; rintro _ _ ⟨rfl, ⟨hh, rfl⟩ | ⟨hh, rfl⟩⟩)
    | refine zv_iret (bX6_copy 3) rfl (Or.inl rfl) (Nat.zero_le _) (Nat.zero_le _) ?_)
  all_goals first | exact ⟨⟨_, rfl, Or.inl (⟨(by first | decide | ((try simp only [lg_cmp_lt, lg_cmp_gt, lg_cmp_ge, lg_cmp_le, lg_cmp_eq] at *); (try simp only [Int32.lt_iff_toInt_lt, Int32.le_iff_toInt_le, Int64.lt_iff_toInt_lt, Int64.le_iff_toInt_le, Int32.toInt_toInt64, lg_cmp_lt, lg_cmp_gt, lg_cmp_ge, lg_cmp_le, i8c, i16c, i32c, i64c, l0c, l1c, z32, i8e, i32e, Decidable.not_not, Int.reduceNeg, Int.reduceLE, Int.reduceLT, and_self, Int32.toInt_zero, Int.not_lt, Int.not_le] at *); omega)), rfl⟩)⟩, fun j hj => rfl⟩ | exact ⟨⟨_, rfl, Or.inr (⟨(by first | decide | ((try simp only [lg_cmp_lt, lg_cmp_gt, lg_cmp_ge, lg_cmp_le, lg_cmp_eq] at *); (try simp only [Int32.lt_iff_toInt_lt, Int32.le_iff_toInt_le, Int64.lt_iff_toInt_lt, Int64.le_iff_toInt_le, Int32.toInt_toInt64, lg_cmp_lt, lg_cmp_gt, lg_cmp_ge, lg_cmp_le, i8c, i16c, i32c, i64c, l0c, l1c, z32, i8e, i32e, Decidable.not_not, Int.reduceNeg, Int.reduceLE, Int.reduceLT, and_self, Int32.toInt_zero, Int.not_lt, Int.not_le] at *); omega)), rfl⟩)⟩, fun j hj => rfl⟩ | exact absurd (by decide) hh | (exfalso; (try simp only [lg_cmp_lt, lg_cmp_gt, lg_cmp_ge, lg_cmp_le, lg_cmp_eq] at *); (try simp only [Int32.lt_iff_toInt_lt, Int32.le_iff_toInt_le, Int64.lt_iff_toInt_lt, Int64.le_iff_toInt_le, Int32.toInt_toInt64, lg_cmp_lt, lg_cmp_gt, lg_cmp_ge, lg_cmp_le, i8c, i16c, i32c, i64c, l0c, l1c, z32, i8e, i32e, Decidable.not_not, Int.reduceNeg, Int.reduceLE, Int.reduceLT, and_self, Int32.toInt_zero, Int.not_lt, Int.not_le] at *); omega) | (rename_i hz; exact absurd (by decide) hz)

set_option maxHeartbeats 800000 in
set_option maxRecDepth 20000 in
theorem cX_copy_10 (p1 p2 p3 p4 p5 : Int32) (x1 : (0 ≤ p1.toInt ∧ p1.toInt ≤ 7)) (x2 : ¬ (0 ≤ p3.toInt ∧ p3.toInt ≤ 7)) : zK 3 zX6_copy [.ref 0, .int p1, .int p2, .int p3, .int p4, .int p5] w0 (fun r w' => (∃ a, r = some (.int a) ∧ R_copy p1 p2 p3 p4 p5 a) ∧ ∀ j, 76 ≤ j → w'[j]? = w0[j]?) := by
  refine zK_of qX6_copy (by decide +kernel) rfl ?_
  all_goals obtain ⟨s1, r1, l1, g1, c1⟩ := shelf_at x1
  repeat' (first
    | refine zv_ift (by decide) ?_
    | refine zv_iff (by decide) ?_
    | (refine zv_ifb (fun hc => ?_) (fun hc => ?_) <;> try (exfalso; (try simp only [lg_cmp_lt, lg_cmp_gt, lg_cmp_ge, lg_cmp_le, lg_cmp_eq] at *); (try simp only [Int32.lt_iff_toInt_lt, Int32.le_iff_toInt_le, Int64.lt_iff_toInt_lt, Int64.le_iff_toInt_le, Int32.toInt_toInt64, lg_cmp_lt, lg_cmp_gt, lg_cmp_ge, lg_cmp_le, i8c, i16c, i32c, i64c, l0c, l1c, z32, i8e, i32e, Decidable.not_not, Int.reduceNeg, Int.reduceLE, Int.reduceLT, and_self, Int32.toInt_zero, Int.not_lt, Int.not_le] at *); omega; done))
    | refine zv_getf (bX6_copy 3) rfl c1 rfl ?_
    | refine zv_getf (bX6_copy 3) rfl c2 rfl ?_
    | refine zv_aald (bX6_copy 3) rfl (Or.inl rfl) rfl (vp_in_iff.mpr ⟨x1.1, Int.lt_of_le_of_lt x1.2 (by decide)⟩) g1 ?_
    | refine zv_aald (bX6_copy 3) rfl (Or.inl rfl) rfl (vp_in_iff.mpr ⟨x2.1, Int.lt_of_le_of_lt x2.2 (by decide)⟩) g2 ?_
    | refine zv_step (bX6_copy 3) rfl rfl trivial ?_
    | (refine zv_S1 (bX6_copy 3) rfl rfl rfl rfl ⟨rfl, rfl, rfl⟩ ⟨by decide, by decide⟩ ⟨Nat.zero_le _, Nat.zero_le _⟩ (hX6_isShelf _ _) ?_; rintro _ _ ⟨rfl, ⟨hh, rfl⟩ | ⟨hh, rfl⟩⟩)
    | refine zv_iret (bX6_copy 3) rfl (Or.inl rfl) (Nat.zero_le _) (Nat.zero_le _) ?_)
  all_goals first | exact ⟨⟨_, rfl, Or.inl (⟨(by first | decide | ((try simp only [lg_cmp_lt, lg_cmp_gt, lg_cmp_ge, lg_cmp_le, lg_cmp_eq] at *); (try simp only [Int32.lt_iff_toInt_lt, Int32.le_iff_toInt_le, Int64.lt_iff_toInt_lt, Int64.le_iff_toInt_le, Int32.toInt_toInt64, lg_cmp_lt, lg_cmp_gt, lg_cmp_ge, lg_cmp_le, i8c, i16c, i32c, i64c, l0c, l1c, z32, i8e, i32e, Decidable.not_not, Int.reduceNeg, Int.reduceLE, Int.reduceLT, and_self, Int32.toInt_zero, Int.not_lt, Int.not_le] at *); omega)), rfl⟩)⟩, fun j hj => rfl⟩ | exact ⟨⟨_, rfl, Or.inr (⟨(by first | decide | ((try simp only [lg_cmp_lt, lg_cmp_gt, lg_cmp_ge, lg_cmp_le, lg_cmp_eq] at *); (try simp only [Int32.lt_iff_toInt_lt, Int32.le_iff_toInt_le, Int64.lt_iff_toInt_lt, Int64.le_iff_toInt_le, Int32.toInt_toInt64, lg_cmp_lt, lg_cmp_gt, lg_cmp_ge, lg_cmp_le, i8c, i16c, i32c, i64c, l0c, l1c, z32, i8e, i32e, Decidable.not_not, Int.reduceNeg, Int.reduceLE, Int.reduceLT, and_self, Int32.toInt_zero, Int.not_lt, Int.not_le] at *); omega)), rfl⟩)⟩, fun j hj => rfl⟩ | exact absurd (by decide) hh | (exfalso; (try simp only [lg_cmp_lt, lg_cmp_gt, lg_cmp_ge, lg_cmp_le, lg_cmp_eq] at *); (try simp only [Int32.lt_iff_toInt_lt, Int32.le_iff_toInt_le, Int64.lt_iff_toInt_lt, Int64.le_iff_toInt_le, Int32.toInt_toInt64, lg_cmp_lt, lg_cmp_gt, lg_cmp_ge, lg_cmp_le, i8c, i16c, i32c, i64c, l0c, l1c, z32, i8e, i32e, Decidable.not_not, Int.reduceNeg, Int.reduceLE, Int.reduceLT, and_self, Int32.toInt_zero, Int.not_lt, Int.not_le] at *); omega) | (rename_i hz; exact absurd (by decide) hz)

set_option maxHeartbeats 800000 in
set_option maxRecDepth 20000 in
theorem cX_copy_01 (p1 p2 p3 p4 p5 : Int32) (x1 : ¬ (0 ≤ p1.toInt ∧ p1.toInt ≤ 7)) (x2 : (0 ≤ p3.toInt ∧ p3.toInt ≤ 7)) : zK 3 zX6_copy [.ref 0, .int p1, .int p2, .int p3, .int p4, .int p5] w0 (fun r w' => (∃ a, r = some (.int a) ∧ R_copy p1 p2 p3 p4 p5 a) ∧ ∀ j, 76 ≤ j → w'[j]? = w0[j]?) := by
  refine zK_of qX6_copy (by decide +kernel) rfl ?_
  all_goals obtain ⟨s2, r2, l2, g2, c2⟩ := shelf_at x2
  repeat' (first
    | refine zv_ift (by decide) ?_
    | refine zv_iff (by decide) ?_
    | (refine zv_ifb (fun hc => ?_) (fun hc => ?_) <;> try (exfalso; (try simp only [lg_cmp_lt, lg_cmp_gt, lg_cmp_ge, lg_cmp_le, lg_cmp_eq] at *); (try simp only [Int32.lt_iff_toInt_lt, Int32.le_iff_toInt_le, Int64.lt_iff_toInt_lt, Int64.le_iff_toInt_le, Int32.toInt_toInt64, lg_cmp_lt, lg_cmp_gt, lg_cmp_ge, lg_cmp_le, i8c, i16c, i32c, i64c, l0c, l1c, z32, i8e, i32e, Decidable.not_not, Int.reduceNeg, Int.reduceLE, Int.reduceLT, and_self, Int32.toInt_zero, Int.not_lt, Int.not_le] at *); omega; done))
    | refine zv_getf (bX6_copy 3) rfl c1 rfl ?_
    | refine zv_getf (bX6_copy 3) rfl c2 rfl ?_
    | refine zv_aald (bX6_copy 3) rfl (Or.inl rfl) rfl (vp_in_iff.mpr ⟨x1.1, Int.lt_of_le_of_lt x1.2 (by decide)⟩) g1 ?_
    | refine zv_aald (bX6_copy 3) rfl (Or.inl rfl) rfl (vp_in_iff.mpr ⟨x2.1, Int.lt_of_le_of_lt x2.2 (by decide)⟩) g2 ?_
    | refine zv_step (bX6_copy 3) rfl rfl trivial ?_
    | (refine zv_S1 (bX6_copy 3) rfl rfl rfl rfl ⟨rfl, rfl, rfl⟩ ⟨by decide, by decide⟩ ⟨Nat.zero_le _, Nat.zero_le _⟩ (hX6_isShelf _ _) ?_; rintro _ _ ⟨rfl, ⟨hh, rfl⟩ | ⟨hh, rfl⟩⟩)
    | refine zv_iret (bX6_copy 3) rfl (Or.inl rfl) (Nat.zero_le _) (Nat.zero_le _) ?_)
  all_goals first | exact ⟨⟨_, rfl, Or.inl (⟨(by first | decide | ((try simp only [lg_cmp_lt, lg_cmp_gt, lg_cmp_ge, lg_cmp_le, lg_cmp_eq] at *); (try simp only [Int32.lt_iff_toInt_lt, Int32.le_iff_toInt_le, Int64.lt_iff_toInt_lt, Int64.le_iff_toInt_le, Int32.toInt_toInt64, lg_cmp_lt, lg_cmp_gt, lg_cmp_ge, lg_cmp_le, i8c, i16c, i32c, i64c, l0c, l1c, z32, i8e, i32e, Decidable.not_not, Int.reduceNeg, Int.reduceLE, Int.reduceLT, and_self, Int32.toInt_zero, Int.not_lt, Int.not_le] at *); omega)), rfl⟩)⟩, fun j hj => rfl⟩ | exact ⟨⟨_, rfl, Or.inr (⟨(by first | decide | ((try simp only [lg_cmp_lt, lg_cmp_gt, lg_cmp_ge, lg_cmp_le, lg_cmp_eq] at *); (try simp only [Int32.lt_iff_toInt_lt, Int32.le_iff_toInt_le, Int64.lt_iff_toInt_lt, Int64.le_iff_toInt_le, Int32.toInt_toInt64, lg_cmp_lt, lg_cmp_gt, lg_cmp_ge, lg_cmp_le, i8c, i16c, i32c, i64c, l0c, l1c, z32, i8e, i32e, Decidable.not_not, Int.reduceNeg, Int.reduceLE, Int.reduceLT, and_self, Int32.toInt_zero, Int.not_lt, Int.not_le] at *); omega)), rfl⟩)⟩, fun j hj => rfl⟩ | exact absurd (by decide) hh | (exfalso; (try simp only [lg_cmp_lt, lg_cmp_gt, lg_cmp_ge, lg_cmp_le, lg_cmp_eq] at *); (try simp only [Int32.lt_iff_toInt_lt, Int32.le_iff_toInt_le, Int64.lt_iff_toInt_lt, Int64.le_iff_toInt_le, Int32.toInt_toInt64, lg_cmp_lt, lg_cmp_gt, lg_cmp_ge, lg_cmp_le, i8c, i16c, i32c, i64c, l0c, l1c, z32, i8e, i32e, Decidable.not_not, Int.reduceNeg, Int.reduceLE, Int.reduceLT, and_self, Int32.toInt_zero, Int.not_lt, Int.not_le] at *); omega) | (rename_i hz; exact absurd (by decide) hz)

set_option maxHeartbeats 800000 in
set_option maxRecDepth 20000 in
theorem cX_copy_00 (p1 p2 p3 p4 p5 : Int32) (x1 : ¬ (0 ≤ p1.toInt ∧ p1.toInt ≤ 7)) (x2 : ¬ (0 ≤ p3.toInt ∧ p3.toInt ≤ 7)) : zK 3 zX6_copy [.ref 0, .int p1, .int p2, .int p3, .int p4, .int p5] w0 (fun r w' => (∃ a, r = some (.int a) ∧ R_copy p1 p2 p3 p4 p5 a) ∧ ∀ j, 76 ≤ j → w'[j]? = w0[j]?) := by
  refine zK_of qX6_copy (by decide +kernel) rfl ?_
  repeat' (first
    | refine zv_ift (by decide) ?_
    | refine zv_iff (by decide) ?_
    | (refine zv_ifb (fun hc => ?_) (fun hc => ?_) <;> try (exfalso; (try simp only [lg_cmp_lt, lg_cmp_gt, lg_cmp_ge, lg_cmp_le, lg_cmp_eq] at *); (try simp only [Int32.lt_iff_toInt_lt, Int32.le_iff_toInt_le, Int64.lt_iff_toInt_lt, Int64.le_iff_toInt_le, Int32.toInt_toInt64, lg_cmp_lt, lg_cmp_gt, lg_cmp_ge, lg_cmp_le, i8c, i16c, i32c, i64c, l0c, l1c, z32, i8e, i32e, Decidable.not_not, Int.reduceNeg, Int.reduceLE, Int.reduceLT, and_self, Int32.toInt_zero, Int.not_lt, Int.not_le] at *); omega; done))
    | refine zv_getf (bX6_copy 3) rfl c1 rfl ?_
    | refine zv_getf (bX6_copy 3) rfl c2 rfl ?_
    | refine zv_aald (bX6_copy 3) rfl (Or.inl rfl) rfl (vp_in_iff.mpr ⟨x1.1, Int.lt_of_le_of_lt x1.2 (by decide)⟩) g1 ?_
    | refine zv_aald (bX6_copy 3) rfl (Or.inl rfl) rfl (vp_in_iff.mpr ⟨x2.1, Int.lt_of_le_of_lt x2.2 (by decide)⟩) g2 ?_
    | refine zv_step (bX6_copy 3) rfl rfl trivial ?_
    | (refine zv_S1 (bX6_copy 3) rfl rfl rfl rfl ⟨rfl, rfl, rfl⟩ ⟨by decide, by decide⟩ ⟨Nat.zero_le _, Nat.zero_le _⟩ (hX6_isShelf _ _) ?_; rintro _ _ ⟨rfl, ⟨hh, rfl⟩ | ⟨hh, rfl⟩⟩)
    | refine zv_iret (bX6_copy 3) rfl (Or.inl rfl) (Nat.zero_le _) (Nat.zero_le _) ?_)
  all_goals first | exact ⟨⟨_, rfl, Or.inl (⟨(by first | decide | ((try simp only [lg_cmp_lt, lg_cmp_gt, lg_cmp_ge, lg_cmp_le, lg_cmp_eq] at *); (try simp only [Int32.lt_iff_toInt_lt, Int32.le_iff_toInt_le, Int64.lt_iff_toInt_lt, Int64.le_iff_toInt_le, Int32.toInt_toInt64, lg_cmp_lt, lg_cmp_gt, lg_cmp_ge, lg_cmp_le, i8c, i16c, i32c, i64c, l0c, l1c, z32, i8e, i32e, Decidable.not_not, Int.reduceNeg, Int.reduceLE, Int.reduceLT, and_self, Int32.toInt_zero, Int.not_lt, Int.not_le] at *); omega)), rfl⟩)⟩, fun j hj => rfl⟩ | exact ⟨⟨_, rfl, Or.inr (⟨(by first | decide | ((try simp only [lg_cmp_lt, lg_cmp_gt, lg_cmp_ge, lg_cmp_le, lg_cmp_eq] at *); (try simp only [Int32.lt_iff_toInt_lt, Int32.le_iff_toInt_le, Int64.lt_iff_toInt_lt, Int64.le_iff_toInt_le, Int32.toInt_toInt64, lg_cmp_lt, lg_cmp_gt, lg_cmp_ge, lg_cmp_le, i8c, i16c, i32c, i64c, l0c, l1c, z32, i8e, i32e, Decidable.not_not, Int.reduceNeg, Int.reduceLE, Int.reduceLT, and_self, Int32.toInt_zero, Int.not_lt, Int.not_le] at *); omega)), rfl⟩)⟩, fun j hj => rfl⟩ | exact absurd (by decide) hh | (exfalso; (try simp only [lg_cmp_lt, lg_cmp_gt, lg_cmp_ge, lg_cmp_le, lg_cmp_eq] at *); (try simp only [Int32.lt_iff_toInt_lt, Int32.le_iff_toInt_le, Int64.lt_iff_toInt_lt, Int64.le_iff_toInt_le, Int32.toInt_toInt64, lg_cmp_lt, lg_cmp_gt, lg_cmp_ge, lg_cmp_le, i8c, i16c, i32c, i64c, l0c, l1c, z32, i8e, i32e, Decidable.not_not, Int.reduceNeg, Int.reduceLE, Int.reduceLT, and_self, Int32.toInt_zero, Int.not_lt, Int.not_le] at *); omega) | (rename_i hz; exact absurd (by decide) hz)

theorem cX_copy (p1 p2 p3 p4 p5 : Int32) : zK 3 zX6_copy [.ref 0, .int p1, .int p2, .int p3, .int p4, .int p5] w0 (fun r w' => (∃ a, r = some (.int a) ∧ R_copy p1 p2 p3 p4 p5 a) ∧ ∀ j, 76 ≤ j → w'[j]? = w0[j]?) := (if x1 : (0 ≤ p1.toInt ∧ p1.toInt ≤ 7) then (if x2 : (0 ≤ p3.toInt ∧ p3.toInt ≤ 7) then cX_copy_11 p1 p2 p3 p4 p5 x1 x2 else cX_copy_10 p1 p2 p3 p4 p5 x1 x2) else (if x2 : (0 ≤ p3.toInt ∧ p3.toInt ≤ 7) then cX_copy_01 p1 p2 p3 p4 p5 x1 x2 else cX_copy_00 p1 p2 p3 p4 p5 x1 x2))
