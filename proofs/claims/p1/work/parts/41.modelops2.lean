set_option maxHeartbeats 4000000 in
set_option maxRecDepth 20000 in
theorem mHeld (p1 : Int32) {w : zW} (h : ∀ j, 76 ≤ j → w[j]? = w0[j]?) : zK 2 zX7_held [.ref 76, .int p1] w (fun r w' => w' = w ∧ ((¬ (0 ≤ p1.toInt ∧ p1.toInt ≤ 7) ∧ r = some (.int (-1))) ∨ ((0 ≤ p1.toInt ∧ p1.toInt ≤ 7) ∧ r = some (.int (-11))))) := by
  refine zK_of qX7_held (by decide +kernel) rfl ?_
  repeat' (first
    | refine zv_ift (by decide) ?_
    | refine zv_iff (by decide) ?_
    | (refine zv_ifb (fun hc => ?_) (fun hc => ?_) <;> try (exfalso; (try simp only [lg_cmp_lt, lg_cmp_gt, lg_cmp_ge, lg_cmp_le, lg_cmp_eq] at *); (try simp only [Int32.lt_iff_toInt_lt, Int32.le_iff_toInt_le, Int64.lt_iff_toInt_lt, Int64.le_iff_toInt_le, Int32.toInt_toInt64, lg_cmp_lt, lg_cmp_gt, lg_cmp_ge, lg_cmp_le, i8c, i16c, i32c, i64c, l0c, l1c, z32, i8e, i32e, Decidable.not_not, Int.reduceNeg, Int.reduceLE, Int.reduceLT, and_self, Int32.toInt_zero, Int.not_lt, Int.not_le, m1c] at *); omega; done))
    | refine zv_step (bX7_held 2) rfl rfl trivial ?_
    | refine zv_getf (bX7_held 2) rfl ((h _ (by decide)).trans rfl) rfl ?_
    | refine zv_zald (bX7_held 2) rfl ((h _ (by decide)).trans rfl) (by unfold vp_in; decide) ?_
    | refine zv_iald (bX7_held 2) rfl ((h _ (by decide)).trans rfl) (by unfold vp_in; decide) ?_
    | (refine zv_S1 (bX7_held 2) rfl rfl rfl rfl ⟨rfl, rfl, rfl⟩ ⟨by decide, by decide⟩ ⟨Nat.zero_le _, Nat.zero_le _⟩ (hX7_isShelf _ _) ?_; rintro _ _ ⟨rfl, ⟨hh, rfl⟩ | ⟨hh, rfl⟩⟩)
    | refine zv_iald (bX7_held 2) rfl ((h _ (by decide)).trans rfl) (vp_in_iff.mpr (by (try simp only [Int32.lt_iff_toInt_lt, Int32.le_iff_toInt_le, Int64.lt_iff_toInt_lt, Int64.le_iff_toInt_le, Int32.toInt_toInt64, lg_cmp_lt, lg_cmp_gt, lg_cmp_ge, lg_cmp_le, i8c, i16c, i32c, i64c, l0c, l1c, z32, i8e, i32e, Decidable.not_not, Int.reduceNeg, Int.reduceLE, Int.reduceLT, and_self, Int32.toInt_zero, Int.not_lt, Int.not_le, m1c] at *); constructor <;> (try simp only [Int32.lt_iff_toInt_lt, Int32.le_iff_toInt_le, Int64.lt_iff_toInt_lt, Int64.le_iff_toInt_le, Int32.toInt_toInt64, lg_cmp_lt, lg_cmp_gt, lg_cmp_ge, lg_cmp_le, i8c, i16c, i32c, i64c, l0c, l1c, z32, i8e, i32e, Decidable.not_not, Int.reduceNeg, Int.reduceLE, Int.reduceLT, and_self, Int32.toInt_zero, Int.not_lt, Int.not_le, m1c] at *) <;> omega)) ?_
    | refine zv_iret (bX7_held 2) rfl (Or.inl rfl) (Nat.zero_le _) (Nat.zero_le _) ?_)
  all_goals first | exact ⟨rfl, Or.inl ⟨(by first | decide | ((try simp only [lg_cmp_lt, lg_cmp_gt, lg_cmp_ge, lg_cmp_le, lg_cmp_eq] at *); (try simp only [Int32.lt_iff_toInt_lt, Int32.le_iff_toInt_le, Int64.lt_iff_toInt_lt, Int64.le_iff_toInt_le, Int32.toInt_toInt64, lg_cmp_lt, lg_cmp_gt, lg_cmp_ge, lg_cmp_le, i8c, i16c, i32c, i64c, l0c, l1c, z32, i8e, i32e, Decidable.not_not, Int.reduceNeg, Int.reduceLE, Int.reduceLT, and_self, Int32.toInt_zero, Int.not_lt, Int.not_le, m1c] at *); omega)), rfl⟩⟩ | exact ⟨rfl, Or.inr ⟨(by first | decide | ((try simp only [lg_cmp_lt, lg_cmp_gt, lg_cmp_ge, lg_cmp_le, lg_cmp_eq] at *); (try simp only [Int32.lt_iff_toInt_lt, Int32.le_iff_toInt_le, Int64.lt_iff_toInt_lt, Int64.le_iff_toInt_le, Int32.toInt_toInt64, lg_cmp_lt, lg_cmp_gt, lg_cmp_ge, lg_cmp_le, i8c, i16c, i32c, i64c, l0c, l1c, z32, i8e, i32e, Decidable.not_not, Int.reduceNeg, Int.reduceLE, Int.reduceLT, and_self, Int32.toInt_zero, Int.not_lt, Int.not_le, m1c] at *); omega)), rfl⟩⟩ | (exfalso; (try simp only [lg_cmp_lt, lg_cmp_gt, lg_cmp_ge, lg_cmp_le, lg_cmp_eq] at *); (try simp only [Int32.lt_iff_toInt_lt, Int32.le_iff_toInt_le, Int64.lt_iff_toInt_lt, Int64.le_iff_toInt_le, Int32.toInt_toInt64, lg_cmp_lt, lg_cmp_gt, lg_cmp_ge, lg_cmp_le, i8c, i16c, i32c, i64c, l0c, l1c, z32, i8e, i32e, Decidable.not_not, Int.reduceNeg, Int.reduceLE, Int.reduceLT, and_self, Int32.toInt_zero, Int.not_lt, Int.not_le, m1c] at *); omega) | (rename_i hz; exact absurd (by decide) hz)

set_option maxHeartbeats 1000000 in
set_option maxRecDepth 20000 in
theorem cM_weight (p1 : Int32) {w : zW} (h : ∀ j, 76 ≤ j → w[j]? = w0[j]?) : zK 3 zX7_weight [.ref 76, .int p1] w (fun r w' => ∃ a, r = some (.int a) ∧ R_weight p1 a) := by
  refine zK_of qX7_weight (by decide +kernel) rfl ?_
  repeat' (first
    | refine zv_ift (by decide) ?_
    | refine zv_iff (by decide) ?_
    | (refine zv_ifb (fun hc => ?_) (fun hc => ?_) <;> try (exfalso; (try simp only [lg_cmp_lt, lg_cmp_gt, lg_cmp_ge, lg_cmp_le, lg_cmp_eq] at *); (try simp only [Int32.lt_iff_toInt_lt, Int32.le_iff_toInt_le, Int64.lt_iff_toInt_lt, Int64.le_iff_toInt_le, Int32.toInt_toInt64, lg_cmp_lt, lg_cmp_gt, lg_cmp_ge, lg_cmp_le, i8c, i16c, i32c, i64c, l0c, l1c, z32, i8e, i32e, Decidable.not_not, Int.reduceNeg, Int.reduceLE, Int.reduceLT, and_self, Int32.toInt_zero, Int.not_lt, Int.not_le, m1c] at *); omega; done))
    | refine zv_step (bX7_weight 3) rfl rfl trivial ?_
    | refine zv_getf (bX7_weight 3) rfl ((h _ (by decide)).trans rfl) rfl ?_
    | refine zv_zald (bX7_weight 3) rfl ((h _ (by decide)).trans rfl) (by unfold vp_in; decide) ?_
    | refine zv_iald (bX7_weight 3) rfl ((h _ (by decide)).trans rfl) (by unfold vp_in; decide) ?_
    | (refine zv_V1 (bX7_weight 3) rfl rfl rfl ((h _ (by decide)).trans rfl) rfl rfl rfl ⟨rfl, rfl, rfl⟩ ⟨by decide, by decide⟩ ⟨Nat.zero_le _, Nat.zero_le _⟩ (mHeld _ h) ?_; rintro _ _ ⟨rfl, ⟨hh, rfl⟩ | ⟨hh, rfl⟩⟩)
    | refine zv_iret (bX7_weight 3) rfl (Or.inl rfl) (Nat.zero_le _) (Nat.zero_le _) ?_)
  all_goals first | exact ⟨_, rfl, Or.inl (⟨(by first | decide | ((try simp only [lg_cmp_lt, lg_cmp_gt, lg_cmp_ge, lg_cmp_le, lg_cmp_eq] at *); (try simp only [Int32.lt_iff_toInt_lt, Int32.le_iff_toInt_le, Int64.lt_iff_toInt_lt, Int64.le_iff_toInt_le, Int32.toInt_toInt64, lg_cmp_lt, lg_cmp_gt, lg_cmp_ge, lg_cmp_le, i8c, i16c, i32c, i64c, l0c, l1c, z32, i8e, i32e, Decidable.not_not, Int.reduceNeg, Int.reduceLE, Int.reduceLT, and_self, Int32.toInt_zero, Int.not_lt, Int.not_le, m1c] at *); omega)), rfl⟩)⟩ | exact ⟨_, rfl, Or.inr (⟨(by first | decide | ((try simp only [lg_cmp_lt, lg_cmp_gt, lg_cmp_ge, lg_cmp_le, lg_cmp_eq] at *); (try simp only [Int32.lt_iff_toInt_lt, Int32.le_iff_toInt_le, Int64.lt_iff_toInt_lt, Int64.le_iff_toInt_le, Int32.toInt_toInt64, lg_cmp_lt, lg_cmp_gt, lg_cmp_ge, lg_cmp_le, i8c, i16c, i32c, i64c, l0c, l1c, z32, i8e, i32e, Decidable.not_not, Int.reduceNeg, Int.reduceLE, Int.reduceLT, and_self, Int32.toInt_zero, Int.not_lt, Int.not_le, m1c] at *); omega)), rfl⟩)⟩ | (exfalso; (try simp only [lg_cmp_lt, lg_cmp_gt, lg_cmp_ge, lg_cmp_le, lg_cmp_eq] at *); (try simp only [Int32.lt_iff_toInt_lt, Int32.le_iff_toInt_le, Int64.lt_iff_toInt_lt, Int64.le_iff_toInt_le, Int32.toInt_toInt64, lg_cmp_lt, lg_cmp_gt, lg_cmp_ge, lg_cmp_le, i8c, i16c, i32c, i64c, l0c, l1c, z32, i8e, i32e, Decidable.not_not, Int.reduceNeg, Int.reduceLE, Int.reduceLT, and_self, Int32.toInt_zero, Int.not_lt, Int.not_le, m1c] at *); omega) | (rename_i hz; exact absurd (by decide) hz)

set_option maxHeartbeats 1000000 in
set_option maxRecDepth 20000 in
theorem cM_toss (p1 : Int32) {w : zW} (h : ∀ j, 76 ≤ j → w[j]? = w0[j]?) : zK 3 zX7_toss [.ref 76, .int p1] w (fun r w' => ∃ a, r = some (.int a) ∧ R_toss p1 a) := by
  refine zK_of qX7_toss (by decide +kernel) rfl ?_
  repeat' (first
    | refine zv_ift (by decide) ?_
    | refine zv_iff (by decide) ?_
    | (refine zv_ifb (fun hc => ?_) (fun hc => ?_) <;> try (exfalso; (try simp only [lg_cmp_lt, lg_cmp_gt, lg_cmp_ge, lg_cmp_le, lg_cmp_eq] at *); (try simp only [Int32.lt_iff_toInt_lt, Int32.le_iff_toInt_le, Int64.lt_iff_toInt_lt, Int64.le_iff_toInt_le, Int32.toInt_toInt64, lg_cmp_lt, lg_cmp_gt, lg_cmp_ge, lg_cmp_le, i8c, i16c, i32c, i64c, l0c, l1c, z32, i8e, i32e, Decidable.not_not, Int.reduceNeg, Int.reduceLE, Int.reduceLT, and_self, Int32.toInt_zero, Int.not_lt, Int.not_le, m1c] at *); omega; done))
    | refine zv_step (bX7_toss 3) rfl rfl trivial ?_
    | refine zv_getf (bX7_toss 3) rfl ((h _ (by decide)).trans rfl) rfl ?_
    | refine zv_zald (bX7_toss 3) rfl ((h _ (by decide)).trans rfl) (by unfold vp_in; decide) ?_
    | refine zv_iald (bX7_toss 3) rfl ((h _ (by decide)).trans rfl) (by unfold vp_in; decide) ?_
    | (refine zv_V1 (bX7_toss 3) rfl rfl rfl ((h _ (by decide)).trans rfl) rfl rfl rfl ⟨rfl, rfl, rfl⟩ ⟨by decide, by decide⟩ ⟨Nat.zero_le _, Nat.zero_le _⟩ (mHeld _ h) ?_; rintro _ _ ⟨rfl, ⟨hh, rfl⟩ | ⟨hh, rfl⟩⟩)
    | refine zv_iret (bX7_toss 3) rfl (Or.inl rfl) (Nat.zero_le _) (Nat.zero_le _) ?_)
  all_goals first | exact ⟨_, rfl, Or.inl (⟨(by first | decide | ((try simp only [lg_cmp_lt, lg_cmp_gt, lg_cmp_ge, lg_cmp_le, lg_cmp_eq] at *); (try simp only [Int32.lt_iff_toInt_lt, Int32.le_iff_toInt_le, Int64.lt_iff_toInt_lt, Int64.le_iff_toInt_le, Int32.toInt_toInt64, lg_cmp_lt, lg_cmp_gt, lg_cmp_ge, lg_cmp_le, i8c, i16c, i32c, i64c, l0c, l1c, z32, i8e, i32e, Decidable.not_not, Int.reduceNeg, Int.reduceLE, Int.reduceLT, and_self, Int32.toInt_zero, Int.not_lt, Int.not_le, m1c] at *); omega)), rfl⟩)⟩ | exact ⟨_, rfl, Or.inr (⟨(by first | decide | ((try simp only [lg_cmp_lt, lg_cmp_gt, lg_cmp_ge, lg_cmp_le, lg_cmp_eq] at *); (try simp only [Int32.lt_iff_toInt_lt, Int32.le_iff_toInt_le, Int64.lt_iff_toInt_lt, Int64.le_iff_toInt_le, Int32.toInt_toInt64, lg_cmp_lt, lg_cmp_gt, lg_cmp_ge, lg_cmp_le, i8c, i16c, i32c, i64c, l0c, l1c, z32, i8e, i32e, Decidable.not_not, Int.reduceNeg, Int.reduceLE, Int.reduceLT, and_self, Int32.toInt_zero, Int.not_lt, Int.not_le, m1c] at *); omega)), rfl⟩)⟩ | (exfalso; (try simp only [lg_cmp_lt, lg_cmp_gt, lg_cmp_ge, lg_cmp_le, lg_cmp_eq] at *); (try simp only [Int32.lt_iff_toInt_lt, Int32.le_iff_toInt_le, Int64.lt_iff_toInt_lt, Int64.le_iff_toInt_le, Int32.toInt_toInt64, lg_cmp_lt, lg_cmp_gt, lg_cmp_ge, lg_cmp_le, i8c, i16c, i32c, i64c, l0c, l1c, z32, i8e, i32e, Decidable.not_not, Int.reduceNeg, Int.reduceLE, Int.reduceLT, and_self, Int32.toInt_zero, Int.not_lt, Int.not_le, m1c] at *); omega) | (rename_i hz; exact absurd (by decide) hz)

set_option maxHeartbeats 1000000 in
set_option maxRecDepth 20000 in
theorem cM_copy (p1 p2 p3 p4 p5 : Int32) {w : zW} (h : ∀ j, 76 ≤ j → w[j]? = w0[j]?) : zK 3 zX7_copy [.ref 76, .int p1, .int p2, .int p3, .int p4, .int p5] w (fun r w' => ∃ a, r = some (.int a) ∧ R_copy p1 p2 p3 p4 p5 a) := by
  refine zK_of qX7_copy (by decide +kernel) rfl ?_
  repeat' (first
    | refine zv_ift (by decide) ?_
    | refine zv_iff (by decide) ?_
    | (refine zv_ifb (fun hc => ?_) (fun hc => ?_) <;> try (exfalso; (try simp only [lg_cmp_lt, lg_cmp_gt, lg_cmp_ge, lg_cmp_le, lg_cmp_eq] at *); (try simp only [Int32.lt_iff_toInt_lt, Int32.le_iff_toInt_le, Int64.lt_iff_toInt_lt, Int64.le_iff_toInt_le, Int32.toInt_toInt64, lg_cmp_lt, lg_cmp_gt, lg_cmp_ge, lg_cmp_le, i8c, i16c, i32c, i64c, l0c, l1c, z32, i8e, i32e, Decidable.not_not, Int.reduceNeg, Int.reduceLE, Int.reduceLT, and_self, Int32.toInt_zero, Int.not_lt, Int.not_le, m1c] at *); omega; done))
    | refine zv_step (bX7_copy 3) rfl rfl trivial ?_
    | refine zv_getf (bX7_copy 3) rfl ((h _ (by decide)).trans rfl) rfl ?_
    | refine zv_zald (bX7_copy 3) rfl ((h _ (by decide)).trans rfl) (by unfold vp_in; decide) ?_
    | refine zv_iald (bX7_copy 3) rfl ((h _ (by decide)).trans rfl) (by unfold vp_in; decide) ?_
    | (refine zv_S1 (bX7_copy 3) rfl rfl rfl rfl ⟨rfl, rfl, rfl⟩ ⟨by decide, by decide⟩ ⟨Nat.zero_le _, Nat.zero_le _⟩ (hX7_isShelf _ _) ?_; rintro _ _ ⟨rfl, ⟨hh, rfl⟩ | ⟨hh, rfl⟩⟩)
    | refine zv_iald (bX7_copy 3) rfl ((h _ (by decide)).trans rfl) (vp_in_iff.mpr (by (try simp only [Int32.lt_iff_toInt_lt, Int32.le_iff_toInt_le, Int64.lt_iff_toInt_lt, Int64.le_iff_toInt_le, Int32.toInt_toInt64, lg_cmp_lt, lg_cmp_gt, lg_cmp_ge, lg_cmp_le, i8c, i16c, i32c, i64c, l0c, l1c, z32, i8e, i32e, Decidable.not_not, Int.reduceNeg, Int.reduceLE, Int.reduceLT, and_self, Int32.toInt_zero, Int.not_lt, Int.not_le, m1c] at *); constructor <;> (try simp only [Int32.lt_iff_toInt_lt, Int32.le_iff_toInt_le, Int64.lt_iff_toInt_lt, Int64.le_iff_toInt_le, Int32.toInt_toInt64, lg_cmp_lt, lg_cmp_gt, lg_cmp_ge, lg_cmp_le, i8c, i16c, i32c, i64c, l0c, l1c, z32, i8e, i32e, Decidable.not_not, Int.reduceNeg, Int.reduceLE, Int.reduceLT, and_self, Int32.toInt_zero, Int.not_lt, Int.not_le, m1c] at *) <;> omega)) ?_
    | refine zv_iret (bX7_copy 3) rfl (Or.inl rfl) (Nat.zero_le _) (Nat.zero_le _) ?_)
  all_goals first | exact ⟨_, rfl, Or.inl (⟨(by first | decide | ((try simp only [lg_cmp_lt, lg_cmp_gt, lg_cmp_ge, lg_cmp_le, lg_cmp_eq] at *); (try simp only [Int32.lt_iff_toInt_lt, Int32.le_iff_toInt_le, Int64.lt_iff_toInt_lt, Int64.le_iff_toInt_le, Int32.toInt_toInt64, lg_cmp_lt, lg_cmp_gt, lg_cmp_ge, lg_cmp_le, i8c, i16c, i32c, i64c, l0c, l1c, z32, i8e, i32e, Decidable.not_not, Int.reduceNeg, Int.reduceLE, Int.reduceLT, and_self, Int32.toInt_zero, Int.not_lt, Int.not_le, m1c] at *); omega)), rfl⟩)⟩ | exact ⟨_, rfl, Or.inr (⟨(by first | decide | ((try simp only [lg_cmp_lt, lg_cmp_gt, lg_cmp_ge, lg_cmp_le, lg_cmp_eq] at *); (try simp only [Int32.lt_iff_toInt_lt, Int32.le_iff_toInt_le, Int64.lt_iff_toInt_lt, Int64.le_iff_toInt_le, Int32.toInt_toInt64, lg_cmp_lt, lg_cmp_gt, lg_cmp_ge, lg_cmp_le, i8c, i16c, i32c, i64c, l0c, l1c, z32, i8e, i32e, Decidable.not_not, Int.reduceNeg, Int.reduceLE, Int.reduceLT, and_self, Int32.toInt_zero, Int.not_lt, Int.not_le, m1c] at *); omega)), rfl⟩)⟩ | (exfalso; (try simp only [lg_cmp_lt, lg_cmp_gt, lg_cmp_ge, lg_cmp_le, lg_cmp_eq] at *); (try simp only [Int32.lt_iff_toInt_lt, Int32.le_iff_toInt_le, Int64.lt_iff_toInt_lt, Int64.le_iff_toInt_le, Int32.toInt_toInt64, lg_cmp_lt, lg_cmp_gt, lg_cmp_ge, lg_cmp_le, i8c, i16c, i32c, i64c, l0c, l1c, z32, i8e, i32e, Decidable.not_not, Int.reduceNeg, Int.reduceLE, Int.reduceLT, and_self, Int32.toInt_zero, Int.not_lt, Int.not_le, m1c] at *); omega) | (rename_i hz; exact absurd (by decide) hz)

set_option maxHeartbeats 1000000 in
set_option maxRecDepth 20000 in
theorem cM_place (p1 p2 : Int32) {w : zW} (h : ∀ j, 76 ≤ j → w[j]? = w0[j]?) : zK 3 zX7_place [.ref 76, .int p1, .int p2] w (fun r w' => r = some (.long (-1))) := by
  refine zK_of qX7_place (by decide +kernel) rfl ?_
  repeat' (first
    | refine zv_ift (by decide) ?_
    | refine zv_iff (by decide) ?_
    | (refine zv_ifb (fun hc => ?_) (fun hc => ?_) <;> try (exfalso; (try simp only [lg_cmp_lt, lg_cmp_gt, lg_cmp_ge, lg_cmp_le, lg_cmp_eq] at *); (try simp only [Int32.lt_iff_toInt_lt, Int32.le_iff_toInt_le, Int64.lt_iff_toInt_lt, Int64.le_iff_toInt_le, Int32.toInt_toInt64, lg_cmp_lt, lg_cmp_gt, lg_cmp_ge, lg_cmp_le, i8c, i16c, i32c, i64c, l0c, l1c, z32, i8e, i32e, Decidable.not_not, Int.reduceNeg, Int.reduceLE, Int.reduceLT, and_self, Int32.toInt_zero, Int.not_lt, Int.not_le, m1c] at *); omega; done))
    | refine zv_step (bX7_place 3) rfl rfl trivial ?_
    | refine zv_getf (bX7_place 3) rfl ((h _ (by decide)).trans rfl) rfl ?_
    | refine zv_zald (bX7_place 3) rfl ((h _ (by decide)).trans rfl) (by unfold vp_in; decide) ?_
    | refine zv_iald (bX7_place 3) rfl ((h _ (by decide)).trans rfl) (by unfold vp_in; decide) ?_
    | (refine zv_S3 (bX7_place 3) rfl rfl rfl rfl ⟨rfl, rfl, rfl⟩ ⟨by decide, by decide⟩ ⟨Nat.zero_le _, Nat.zero_le _⟩ (hX7_in _ _ _ _) ?_; rintro _ _ ⟨rfl, ⟨hh, rfl⟩ | ⟨hh, rfl⟩⟩)
    | (refine zv_V1 (bX7_place 3) rfl rfl rfl ((h _ (by decide)).trans rfl) rfl rfl rfl ⟨rfl, rfl, rfl⟩ ⟨by decide, by decide⟩ ⟨Nat.zero_le _, Nat.zero_le _⟩ (mNode _ h) ?_; rintro _ _ ⟨rfl, rfl⟩)
    | refine zv_lret (bX7_place 3) rfl rfl (Nat.zero_le _) (Nat.zero_le _) ?_)
  all_goals first | exact rfl | (exfalso; (try simp only [lg_cmp_lt, lg_cmp_gt, lg_cmp_ge, lg_cmp_le, lg_cmp_eq] at *); (try simp only [Int32.lt_iff_toInt_lt, Int32.le_iff_toInt_le, Int64.lt_iff_toInt_lt, Int64.le_iff_toInt_le, Int32.toInt_toInt64, lg_cmp_lt, lg_cmp_gt, lg_cmp_ge, lg_cmp_le, i8c, i16c, i32c, i64c, l0c, l1c, z32, i8e, i32e, Decidable.not_not, Int.reduceNeg, Int.reduceLE, Int.reduceLT, and_self, Int32.toInt_zero, Int.not_lt, Int.not_le, m1c] at *); omega) | (rename_i hz; exact absurd (by decide) hz)

