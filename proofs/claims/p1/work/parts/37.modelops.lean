theorem m1c : (0 - Int32.ofInt 1).toInt = -1 := by decide +kernel
set_option maxHeartbeats 4000000 in
set_option maxRecDepth 20000 in
theorem mNode (x : Int32) {w : zW} (h : ∀ j, 76 ≤ j → w[j]? = w0[j]?) : zK 1 zX7_isNode [.ref 76, .int x] w (fun r w' => w' = w ∧ r = some (.int 0)) := by
  refine zK_of qX7_isNode (by decide +kernel) rfl ?_
  repeat' (first
    | refine zv_step (bX7_isNode 1) rfl rfl trivial ?_
    | refine zv_getf (bX7_isNode 1) rfl ((h _ (by decide)).trans rfl) rfl ?_
    | refine zv_zald (bX7_isNode 1) rfl ((h _ (by decide)).trans rfl) (by unfold vp_in; decide) ?_
    | refine zv_iald (bX7_isNode 1) rfl ((h _ (by decide)).trans rfl) (by unfold vp_in; decide) ?_
    | (dsimp only; split)
    | (refine zv_S3 (bX7_isNode 1) rfl rfl rfl rfl ⟨rfl, rfl, rfl⟩ ⟨by decide, by decide⟩ ⟨Nat.zero_le _, Nat.zero_le _⟩ (hX7_in _ _ _ _) ?_; rintro _ _ ⟨rfl, ⟨hh, rfl⟩ | ⟨hh, rfl⟩⟩)
    | refine zv_iret (bX7_isNode 1) rfl (Or.inr ⟨rfl, Or.inl rfl⟩) (Nat.zero_le _) (Nat.zero_le _) ?_
    | refine zv_iret (bX7_isNode 1) rfl (Or.inr ⟨rfl, Or.inr rfl⟩) (Nat.zero_le _) (Nat.zero_le _) ?_)
  all_goals first | exact ⟨rfl, rfl⟩ | (exfalso; (try simp only [lg_cmp_lt, lg_cmp_gt, lg_cmp_ge, lg_cmp_le, lg_cmp_eq] at *); (try simp only [Int32.lt_iff_toInt_lt, Int32.le_iff_toInt_le, Int64.lt_iff_toInt_lt, Int64.le_iff_toInt_le, Int32.toInt_toInt64, lg_cmp_lt, lg_cmp_gt, lg_cmp_ge, lg_cmp_le, i8c, i16c, i32c, i64c, l0c, l1c, z32, i8e, i32e, Decidable.not_not, Int.reduceNeg, Int.reduceLE, Int.reduceLT, and_self, Int32.toInt_zero, Int.not_lt, Int.not_le, m1c] at *); omega) | (exfalso; (try simp only [lg_cmp_lt, lg_cmp_gt, lg_cmp_ge, lg_cmp_le, lg_cmp_eq] at *); (try simp only [Int32.lt_iff_toInt_lt, Int32.le_iff_toInt_le, Int64.lt_iff_toInt_lt, Int64.le_iff_toInt_le, Int32.toInt_toInt64, lg_cmp_lt, lg_cmp_gt, lg_cmp_ge, lg_cmp_le, i8c, i16c, i32c, i64c, l0c, l1c, z32, i8e, i32e, Decidable.not_not, Int.reduceNeg, Int.reduceLE, Int.reduceLT, and_self, Int32.toInt_zero, Int.not_lt, Int.not_le, m1c] at *); omega)

set_option maxHeartbeats 4000000 in
set_option maxRecDepth 20000 in
theorem cM_node (p1 p2 p3 : Int32) {w : zW} (h : ∀ j, 76 ≤ j → w[j]? = w0[j]?) : zK 3 zX7_node [.ref 76, .int p1, .int p2, .int p3] w (fun r w' => ∃ a, r = some (.int a) ∧ R_node p1 p2 p3 a) := by
  refine zK_of qX7_node (by decide +kernel) rfl ?_
  repeat' (first
    | refine zv_step (bX7_node 3) rfl rfl trivial ?_
    | refine zv_getf (bX7_node 3) rfl ((h _ (by decide)).trans rfl) rfl ?_
    | refine zv_zald (bX7_node 3) rfl ((h _ (by decide)).trans rfl) (by unfold vp_in; decide) ?_
    | refine zv_iald (bX7_node 3) rfl ((h _ (by decide)).trans rfl) (by unfold vp_in; decide) ?_
    | (dsimp only; split)
    | (refine zv_V1 (bX7_node 3) rfl rfl rfl ((h _ (by decide)).trans rfl) rfl rfl rfl ⟨rfl, rfl, rfl⟩ ⟨by decide, by decide⟩ ⟨Nat.zero_le _, Nat.zero_le _⟩ (mNode _ h) ?_; rintro _ _ ⟨rfl, rfl⟩)
    | (refine zv_S1 (bX7_node 3) rfl rfl rfl rfl ⟨rfl, rfl, rfl⟩ ⟨by decide, by decide⟩ ⟨Nat.zero_le _, Nat.zero_le _⟩ (hX7_isStyle _ _) ?_; rintro _ _ ⟨rfl, ⟨hh, rfl⟩ | ⟨hh, rfl⟩⟩)
    | (refine zv_S1 (bX7_node 3) rfl rfl rfl rfl ⟨rfl, rfl, rfl⟩ ⟨by decide, by decide⟩ ⟨Nat.zero_le _, Nat.zero_le _⟩ (hX7_isShelf _ _) ?_; rintro _ _ ⟨rfl, ⟨hh, rfl⟩ | ⟨hh, rfl⟩⟩)
    | (refine zv_S3 (bX7_node 3) rfl rfl rfl rfl ⟨rfl, rfl, rfl⟩ ⟨by decide, by decide⟩ ⟨Nat.zero_le _, Nat.zero_le _⟩ (hX7_in _ _ _ _) ?_; rintro _ _ ⟨rfl, ⟨hh, rfl⟩ | ⟨hh, rfl⟩⟩)
    | (refine zv_S1 (bX7_node 3) rfl rfl rfl rfl ⟨rfl, rfl, rfl⟩ ⟨by decide, by decide⟩ ⟨Nat.zero_le _, Nat.zero_le _⟩ (hX7_isTwo _ _) ?_; rintro _ _ ⟨rfl, ⟨hh, rfl⟩ | ⟨hh, rfl⟩⟩)
    | (refine zv_S1 (bX7_node 3) rfl rfl rfl rfl ⟨rfl, rfl, rfl⟩ ⟨by decide, by decide⟩ ⟨Nat.zero_le _, Nat.zero_le _⟩ (hX7_mayKeep _ _) ?_; rintro _ _ ⟨rfl, ⟨hh, rfl⟩ | ⟨hh, rfl⟩⟩)
    | refine zv_iret (bX7_node 3) rfl (Or.inl rfl) (Nat.zero_le _) (Nat.zero_le _) ?_)
  all_goals first | exact ⟨_, rfl, ⟨trivial, rfl⟩⟩ | (exfalso; (try simp only [lg_cmp_lt, lg_cmp_gt, lg_cmp_ge, lg_cmp_le, lg_cmp_eq] at *); (try simp only [Int32.lt_iff_toInt_lt, Int32.le_iff_toInt_le, Int64.lt_iff_toInt_lt, Int64.le_iff_toInt_le, Int32.toInt_toInt64, lg_cmp_lt, lg_cmp_gt, lg_cmp_ge, lg_cmp_le, i8c, i16c, i32c, i64c, l0c, l1c, z32, i8e, i32e, Decidable.not_not, Int.reduceNeg, Int.reduceLE, Int.reduceLT, and_self, Int32.toInt_zero, Int.not_lt, Int.not_le, m1c] at *); omega)

set_option maxHeartbeats 4000000 in
set_option maxRecDepth 20000 in
theorem cM_undo  {w : zW} (h : ∀ j, 76 ≤ j → w[j]? = w0[j]?) : zK 3 zX7_undo [.ref 76] w (fun r w' => ∃ a, r = some (.int a) ∧ R_undo a) := by
  refine zK_of qX7_undo (by decide +kernel) rfl ?_
  repeat' (first
    | refine zv_step (bX7_undo 3) rfl rfl trivial ?_
    | refine zv_getf (bX7_undo 3) rfl ((h _ (by decide)).trans rfl) rfl ?_
    | refine zv_zald (bX7_undo 3) rfl ((h _ (by decide)).trans rfl) (by unfold vp_in; decide) ?_
    | refine zv_iald (bX7_undo 3) rfl ((h _ (by decide)).trans rfl) (by unfold vp_in; decide) ?_
    | (dsimp only; split)
    | (refine zv_V1 (bX7_undo 3) rfl rfl rfl ((h _ (by decide)).trans rfl) rfl rfl rfl ⟨rfl, rfl, rfl⟩ ⟨by decide, by decide⟩ ⟨Nat.zero_le _, Nat.zero_le _⟩ (mNode _ h) ?_; rintro _ _ ⟨rfl, rfl⟩)
    | (refine zv_S1 (bX7_undo 3) rfl rfl rfl rfl ⟨rfl, rfl, rfl⟩ ⟨by decide, by decide⟩ ⟨Nat.zero_le _, Nat.zero_le _⟩ (hX7_isStyle _ _) ?_; rintro _ _ ⟨rfl, ⟨hh, rfl⟩ | ⟨hh, rfl⟩⟩)
    | (refine zv_S1 (bX7_undo 3) rfl rfl rfl rfl ⟨rfl, rfl, rfl⟩ ⟨by decide, by decide⟩ ⟨Nat.zero_le _, Nat.zero_le _⟩ (hX7_isShelf _ _) ?_; rintro _ _ ⟨rfl, ⟨hh, rfl⟩ | ⟨hh, rfl⟩⟩)
    | (refine zv_S3 (bX7_undo 3) rfl rfl rfl rfl ⟨rfl, rfl, rfl⟩ ⟨by decide, by decide⟩ ⟨Nat.zero_le _, Nat.zero_le _⟩ (hX7_in _ _ _ _) ?_; rintro _ _ ⟨rfl, ⟨hh, rfl⟩ | ⟨hh, rfl⟩⟩)
    | (refine zv_S1 (bX7_undo 3) rfl rfl rfl rfl ⟨rfl, rfl, rfl⟩ ⟨by decide, by decide⟩ ⟨Nat.zero_le _, Nat.zero_le _⟩ (hX7_isTwo _ _) ?_; rintro _ _ ⟨rfl, ⟨hh, rfl⟩ | ⟨hh, rfl⟩⟩)
    | (refine zv_S1 (bX7_undo 3) rfl rfl rfl rfl ⟨rfl, rfl, rfl⟩ ⟨by decide, by decide⟩ ⟨Nat.zero_le _, Nat.zero_le _⟩ (hX7_mayKeep _ _) ?_; rintro _ _ ⟨rfl, ⟨hh, rfl⟩ | ⟨hh, rfl⟩⟩)
    | refine zv_iret (bX7_undo 3) rfl (Or.inl rfl) (Nat.zero_le _) (Nat.zero_le _) ?_)
  all_goals first | exact ⟨_, rfl, ⟨trivial, rfl⟩⟩ | (exfalso; (try simp only [lg_cmp_lt, lg_cmp_gt, lg_cmp_ge, lg_cmp_le, lg_cmp_eq] at *); (try simp only [Int32.lt_iff_toInt_lt, Int32.le_iff_toInt_le, Int64.lt_iff_toInt_lt, Int64.le_iff_toInt_le, Int32.toInt_toInt64, lg_cmp_lt, lg_cmp_gt, lg_cmp_ge, lg_cmp_le, i8c, i16c, i32c, i64c, l0c, l1c, z32, i8e, i32e, Decidable.not_not, Int.reduceNeg, Int.reduceLE, Int.reduceLT, and_self, Int32.toInt_zero, Int.not_lt, Int.not_le, m1c] at *); omega)

set_option maxHeartbeats 4000000 in
set_option maxRecDepth 20000 in
theorem cM_look (p1 p2 : Int32) {w : zW} (h : ∀ j, 76 ≤ j → w[j]? = w0[j]?) : zK 3 zX7_look [.ref 76, .int p1, .int p2] w (fun r w' => ∃ a, r = some (.int a) ∧ R_look p1 p2 a) := by
  refine zK_of qX7_look (by decide +kernel) rfl ?_
  repeat' (first
    | refine zv_step (bX7_look 3) rfl rfl trivial ?_
    | refine zv_getf (bX7_look 3) rfl ((h _ (by decide)).trans rfl) rfl ?_
    | refine zv_zald (bX7_look 3) rfl ((h _ (by decide)).trans rfl) (by unfold vp_in; decide) ?_
    | refine zv_iald (bX7_look 3) rfl ((h _ (by decide)).trans rfl) (by unfold vp_in; decide) ?_
    | (dsimp only; split)
    | (refine zv_V1 (bX7_look 3) rfl rfl rfl ((h _ (by decide)).trans rfl) rfl rfl rfl ⟨rfl, rfl, rfl⟩ ⟨by decide, by decide⟩ ⟨Nat.zero_le _, Nat.zero_le _⟩ (mNode _ h) ?_; rintro _ _ ⟨rfl, rfl⟩)
    | (refine zv_S1 (bX7_look 3) rfl rfl rfl rfl ⟨rfl, rfl, rfl⟩ ⟨by decide, by decide⟩ ⟨Nat.zero_le _, Nat.zero_le _⟩ (hX7_isStyle _ _) ?_; rintro _ _ ⟨rfl, ⟨hh, rfl⟩ | ⟨hh, rfl⟩⟩)
    | (refine zv_S1 (bX7_look 3) rfl rfl rfl rfl ⟨rfl, rfl, rfl⟩ ⟨by decide, by decide⟩ ⟨Nat.zero_le _, Nat.zero_le _⟩ (hX7_isShelf _ _) ?_; rintro _ _ ⟨rfl, ⟨hh, rfl⟩ | ⟨hh, rfl⟩⟩)
    | (refine zv_S3 (bX7_look 3) rfl rfl rfl rfl ⟨rfl, rfl, rfl⟩ ⟨by decide, by decide⟩ ⟨Nat.zero_le _, Nat.zero_le _⟩ (hX7_in _ _ _ _) ?_; rintro _ _ ⟨rfl, ⟨hh, rfl⟩ | ⟨hh, rfl⟩⟩)
    | (refine zv_S1 (bX7_look 3) rfl rfl rfl rfl ⟨rfl, rfl, rfl⟩ ⟨by decide, by decide⟩ ⟨Nat.zero_le _, Nat.zero_le _⟩ (hX7_isTwo _ _) ?_; rintro _ _ ⟨rfl, ⟨hh, rfl⟩ | ⟨hh, rfl⟩⟩)
    | (refine zv_S1 (bX7_look 3) rfl rfl rfl rfl ⟨rfl, rfl, rfl⟩ ⟨by decide, by decide⟩ ⟨Nat.zero_le _, Nat.zero_le _⟩ (hX7_mayKeep _ _) ?_; rintro _ _ ⟨rfl, ⟨hh, rfl⟩ | ⟨hh, rfl⟩⟩)
    | refine zv_iret (bX7_look 3) rfl (Or.inl rfl) (Nat.zero_le _) (Nat.zero_le _) ?_)
  all_goals first | exact ⟨_, rfl, ⟨trivial, rfl⟩⟩ | (exfalso; (try simp only [lg_cmp_lt, lg_cmp_gt, lg_cmp_ge, lg_cmp_le, lg_cmp_eq] at *); (try simp only [Int32.lt_iff_toInt_lt, Int32.le_iff_toInt_le, Int64.lt_iff_toInt_lt, Int64.le_iff_toInt_le, Int32.toInt_toInt64, lg_cmp_lt, lg_cmp_gt, lg_cmp_ge, lg_cmp_le, i8c, i16c, i32c, i64c, l0c, l1c, z32, i8e, i32e, Decidable.not_not, Int.reduceNeg, Int.reduceLE, Int.reduceLT, and_self, Int32.toInt_zero, Int.not_lt, Int.not_le, m1c] at *); omega)

set_option maxHeartbeats 4000000 in
set_option maxRecDepth 20000 in
theorem cM_alike (p1 p2 : Int32) {w : zW} (h : ∀ j, 76 ≤ j → w[j]? = w0[j]?) : zK 3 zX7_alike [.ref 76, .int p1, .int p2] w (fun r w' => ∃ a, r = some (.int a) ∧ R_alike p1 p2 a) := by
  refine zK_of qX7_alike (by decide +kernel) rfl ?_
  repeat' (first
    | refine zv_step (bX7_alike 3) rfl rfl trivial ?_
    | refine zv_getf (bX7_alike 3) rfl ((h _ (by decide)).trans rfl) rfl ?_
    | refine zv_zald (bX7_alike 3) rfl ((h _ (by decide)).trans rfl) (by unfold vp_in; decide) ?_
    | refine zv_iald (bX7_alike 3) rfl ((h _ (by decide)).trans rfl) (by unfold vp_in; decide) ?_
    | (dsimp only; split)
    | (refine zv_V1 (bX7_alike 3) rfl rfl rfl ((h _ (by decide)).trans rfl) rfl rfl rfl ⟨rfl, rfl, rfl⟩ ⟨by decide, by decide⟩ ⟨Nat.zero_le _, Nat.zero_le _⟩ (mNode _ h) ?_; rintro _ _ ⟨rfl, rfl⟩)
    | (refine zv_S1 (bX7_alike 3) rfl rfl rfl rfl ⟨rfl, rfl, rfl⟩ ⟨by decide, by decide⟩ ⟨Nat.zero_le _, Nat.zero_le _⟩ (hX7_isStyle _ _) ?_; rintro _ _ ⟨rfl, ⟨hh, rfl⟩ | ⟨hh, rfl⟩⟩)
    | (refine zv_S1 (bX7_alike 3) rfl rfl rfl rfl ⟨rfl, rfl, rfl⟩ ⟨by decide, by decide⟩ ⟨Nat.zero_le _, Nat.zero_le _⟩ (hX7_isShelf _ _) ?_; rintro _ _ ⟨rfl, ⟨hh, rfl⟩ | ⟨hh, rfl⟩⟩)
    | (refine zv_S3 (bX7_alike 3) rfl rfl rfl rfl ⟨rfl, rfl, rfl⟩ ⟨by decide, by decide⟩ ⟨Nat.zero_le _, Nat.zero_le _⟩ (hX7_in _ _ _ _) ?_; rintro _ _ ⟨rfl, ⟨hh, rfl⟩ | ⟨hh, rfl⟩⟩)
    | (refine zv_S1 (bX7_alike 3) rfl rfl rfl rfl ⟨rfl, rfl, rfl⟩ ⟨by decide, by decide⟩ ⟨Nat.zero_le _, Nat.zero_le _⟩ (hX7_isTwo _ _) ?_; rintro _ _ ⟨rfl, ⟨hh, rfl⟩ | ⟨hh, rfl⟩⟩)
    | (refine zv_S1 (bX7_alike 3) rfl rfl rfl rfl ⟨rfl, rfl, rfl⟩ ⟨by decide, by decide⟩ ⟨Nat.zero_le _, Nat.zero_le _⟩ (hX7_mayKeep _ _) ?_; rintro _ _ ⟨rfl, ⟨hh, rfl⟩ | ⟨hh, rfl⟩⟩)
    | refine zv_iret (bX7_alike 3) rfl (Or.inl rfl) (Nat.zero_le _) (Nat.zero_le _) ?_)
  all_goals first | exact ⟨_, rfl, ⟨trivial, rfl⟩⟩ | (exfalso; (try simp only [lg_cmp_lt, lg_cmp_gt, lg_cmp_ge, lg_cmp_le, lg_cmp_eq] at *); (try simp only [Int32.lt_iff_toInt_lt, Int32.le_iff_toInt_le, Int64.lt_iff_toInt_lt, Int64.le_iff_toInt_le, Int32.toInt_toInt64, lg_cmp_lt, lg_cmp_gt, lg_cmp_ge, lg_cmp_le, i8c, i16c, i32c, i64c, l0c, l1c, z32, i8e, i32e, Decidable.not_not, Int.reduceNeg, Int.reduceLE, Int.reduceLT, and_self, Int32.toInt_zero, Int.not_lt, Int.not_le, m1c] at *); omega)

set_option maxHeartbeats 4000000 in
set_option maxRecDepth 20000 in
theorem cM_times (p1 p2 : Int32) {w : zW} (h : ∀ j, 76 ≤ j → w[j]? = w0[j]?) : zK 3 zX7_times [.ref 76, .int p1, .int p2] w (fun r w' => ∃ a, r = some (.int a) ∧ R_times p1 p2 a) := by
  refine zK_of qX7_times (by decide +kernel) rfl ?_
  repeat' (first
    | refine zv_step (bX7_times 3) rfl rfl trivial ?_
    | refine zv_getf (bX7_times 3) rfl ((h _ (by decide)).trans rfl) rfl ?_
    | refine zv_zald (bX7_times 3) rfl ((h _ (by decide)).trans rfl) (by unfold vp_in; decide) ?_
    | refine zv_iald (bX7_times 3) rfl ((h _ (by decide)).trans rfl) (by unfold vp_in; decide) ?_
    | (dsimp only; split)
    | (refine zv_V1 (bX7_times 3) rfl rfl rfl ((h _ (by decide)).trans rfl) rfl rfl rfl ⟨rfl, rfl, rfl⟩ ⟨by decide, by decide⟩ ⟨Nat.zero_le _, Nat.zero_le _⟩ (mNode _ h) ?_; rintro _ _ ⟨rfl, rfl⟩)
    | (refine zv_S1 (bX7_times 3) rfl rfl rfl rfl ⟨rfl, rfl, rfl⟩ ⟨by decide, by decide⟩ ⟨Nat.zero_le _, Nat.zero_le _⟩ (hX7_isStyle _ _) ?_; rintro _ _ ⟨rfl, ⟨hh, rfl⟩ | ⟨hh, rfl⟩⟩)
    | (refine zv_S1 (bX7_times 3) rfl rfl rfl rfl ⟨rfl, rfl, rfl⟩ ⟨by decide, by decide⟩ ⟨Nat.zero_le _, Nat.zero_le _⟩ (hX7_isShelf _ _) ?_; rintro _ _ ⟨rfl, ⟨hh, rfl⟩ | ⟨hh, rfl⟩⟩)
    | (refine zv_S3 (bX7_times 3) rfl rfl rfl rfl ⟨rfl, rfl, rfl⟩ ⟨by decide, by decide⟩ ⟨Nat.zero_le _, Nat.zero_le _⟩ (hX7_in _ _ _ _) ?_; rintro _ _ ⟨rfl, ⟨hh, rfl⟩ | ⟨hh, rfl⟩⟩)
    | (refine zv_S1 (bX7_times 3) rfl rfl rfl rfl ⟨rfl, rfl, rfl⟩ ⟨by decide, by decide⟩ ⟨Nat.zero_le _, Nat.zero_le _⟩ (hX7_isTwo _ _) ?_; rintro _ _ ⟨rfl, ⟨hh, rfl⟩ | ⟨hh, rfl⟩⟩)
    | (refine zv_S1 (bX7_times 3) rfl rfl rfl rfl ⟨rfl, rfl, rfl⟩ ⟨by decide, by decide⟩ ⟨Nat.zero_le _, Nat.zero_le _⟩ (hX7_mayKeep _ _) ?_; rintro _ _ ⟨rfl, ⟨hh, rfl⟩ | ⟨hh, rfl⟩⟩)
    | refine zv_iret (bX7_times 3) rfl (Or.inl rfl) (Nat.zero_le _) (Nat.zero_le _) ?_)
  all_goals first | exact ⟨_, rfl, ⟨trivial, rfl⟩⟩ | (exfalso; (try simp only [lg_cmp_lt, lg_cmp_gt, lg_cmp_ge, lg_cmp_le, lg_cmp_eq] at *); (try simp only [Int32.lt_iff_toInt_lt, Int32.le_iff_toInt_le, Int64.lt_iff_toInt_lt, Int64.le_iff_toInt_le, Int32.toInt_toInt64, lg_cmp_lt, lg_cmp_gt, lg_cmp_ge, lg_cmp_le, i8c, i16c, i32c, i64c, l0c, l1c, z32, i8e, i32e, Decidable.not_not, Int.reduceNeg, Int.reduceLE, Int.reduceLT, and_self, Int32.toInt_zero, Int.not_lt, Int.not_le, m1c] at *); omega)

set_option maxHeartbeats 4000000 in
set_option maxRecDepth 20000 in
theorem cM_words (p1 p2 : Int32) {w : zW} (h : ∀ j, 76 ≤ j → w[j]? = w0[j]?) : zK 3 zX7_words [.ref 76, .int p1, .int p2] w (fun r w' => ∃ a, r = some (.int a) ∧ R_words p1 p2 a) := by
  refine zK_of qX7_words (by decide +kernel) rfl ?_
  repeat' (first
    | refine zv_step (bX7_words 3) rfl rfl trivial ?_
    | refine zv_getf (bX7_words 3) rfl ((h _ (by decide)).trans rfl) rfl ?_
    | refine zv_zald (bX7_words 3) rfl ((h _ (by decide)).trans rfl) (by unfold vp_in; decide) ?_
    | refine zv_iald (bX7_words 3) rfl ((h _ (by decide)).trans rfl) (by unfold vp_in; decide) ?_
    | (dsimp only; split)
    | (refine zv_V1 (bX7_words 3) rfl rfl rfl ((h _ (by decide)).trans rfl) rfl rfl rfl ⟨rfl, rfl, rfl⟩ ⟨by decide, by decide⟩ ⟨Nat.zero_le _, Nat.zero_le _⟩ (mNode _ h) ?_; rintro _ _ ⟨rfl, rfl⟩)
    | (refine zv_S1 (bX7_words 3) rfl rfl rfl rfl ⟨rfl, rfl, rfl⟩ ⟨by decide, by decide⟩ ⟨Nat.zero_le _, Nat.zero_le _⟩ (hX7_isStyle _ _) ?_; rintro _ _ ⟨rfl, ⟨hh, rfl⟩ | ⟨hh, rfl⟩⟩)
    | (refine zv_S1 (bX7_words 3) rfl rfl rfl rfl ⟨rfl, rfl, rfl⟩ ⟨by decide, by decide⟩ ⟨Nat.zero_le _, Nat.zero_le _⟩ (hX7_isShelf _ _) ?_; rintro _ _ ⟨rfl, ⟨hh, rfl⟩ | ⟨hh, rfl⟩⟩)
    | (refine zv_S3 (bX7_words 3) rfl rfl rfl rfl ⟨rfl, rfl, rfl⟩ ⟨by decide, by decide⟩ ⟨Nat.zero_le _, Nat.zero_le _⟩ (hX7_in _ _ _ _) ?_; rintro _ _ ⟨rfl, ⟨hh, rfl⟩ | ⟨hh, rfl⟩⟩)
    | (refine zv_S1 (bX7_words 3) rfl rfl rfl rfl ⟨rfl, rfl, rfl⟩ ⟨by decide, by decide⟩ ⟨Nat.zero_le _, Nat.zero_le _⟩ (hX7_isTwo _ _) ?_; rintro _ _ ⟨rfl, ⟨hh, rfl⟩ | ⟨hh, rfl⟩⟩)
    | (refine zv_S1 (bX7_words 3) rfl rfl rfl rfl ⟨rfl, rfl, rfl⟩ ⟨by decide, by decide⟩ ⟨Nat.zero_le _, Nat.zero_le _⟩ (hX7_mayKeep _ _) ?_; rintro _ _ ⟨rfl, ⟨hh, rfl⟩ | ⟨hh, rfl⟩⟩)
    | refine zv_iret (bX7_words 3) rfl (Or.inl rfl) (Nat.zero_le _) (Nat.zero_le _) ?_)
  all_goals first | exact ⟨_, rfl, ⟨trivial, rfl⟩⟩ | (exfalso; (try simp only [lg_cmp_lt, lg_cmp_gt, lg_cmp_ge, lg_cmp_le, lg_cmp_eq] at *); (try simp only [Int32.lt_iff_toInt_lt, Int32.le_iff_toInt_le, Int64.lt_iff_toInt_lt, Int64.le_iff_toInt_le, Int32.toInt_toInt64, lg_cmp_lt, lg_cmp_gt, lg_cmp_ge, lg_cmp_le, i8c, i16c, i32c, i64c, l0c, l1c, z32, i8e, i32e, Decidable.not_not, Int.reduceNeg, Int.reduceLE, Int.reduceLT, and_self, Int32.toInt_zero, Int.not_lt, Int.not_le, m1c] at *); omega)

set_option maxHeartbeats 4000000 in
set_option maxRecDepth 20000 in
theorem cM_word (p1 p2 p3 : Int32) {w : zW} (h : ∀ j, 76 ≤ j → w[j]? = w0[j]?) : zK 3 zX7_word [.ref 76, .int p1, .int p2, .int p3] w (fun r w' => ∃ a, r = some (.int a) ∧ R_word p1 p2 p3 a) := by
  refine zK_of qX7_word (by decide +kernel) rfl ?_
  repeat' (first
    | refine zv_step (bX7_word 3) rfl rfl trivial ?_
    | refine zv_getf (bX7_word 3) rfl ((h _ (by decide)).trans rfl) rfl ?_
    | refine zv_zald (bX7_word 3) rfl ((h _ (by decide)).trans rfl) (by unfold vp_in; decide) ?_
    | refine zv_iald (bX7_word 3) rfl ((h _ (by decide)).trans rfl) (by unfold vp_in; decide) ?_
    | (dsimp only; split)
    | (refine zv_V1 (bX7_word 3) rfl rfl rfl ((h _ (by decide)).trans rfl) rfl rfl rfl ⟨rfl, rfl, rfl⟩ ⟨by decide, by decide⟩ ⟨Nat.zero_le _, Nat.zero_le _⟩ (mNode _ h) ?_; rintro _ _ ⟨rfl, rfl⟩)
    | (refine zv_S1 (bX7_word 3) rfl rfl rfl rfl ⟨rfl, rfl, rfl⟩ ⟨by decide, by decide⟩ ⟨Nat.zero_le _, Nat.zero_le _⟩ (hX7_isStyle _ _) ?_; rintro _ _ ⟨rfl, ⟨hh, rfl⟩ | ⟨hh, rfl⟩⟩)
    | (refine zv_S1 (bX7_word 3) rfl rfl rfl rfl ⟨rfl, rfl, rfl⟩ ⟨by decide, by decide⟩ ⟨Nat.zero_le _, Nat.zero_le _⟩ (hX7_isShelf _ _) ?_; rintro _ _ ⟨rfl, ⟨hh, rfl⟩ | ⟨hh, rfl⟩⟩)
    | (refine zv_S3 (bX7_word 3) rfl rfl rfl rfl ⟨rfl, rfl, rfl⟩ ⟨by decide, by decide⟩ ⟨Nat.zero_le _, Nat.zero_le _⟩ (hX7_in _ _ _ _) ?_; rintro _ _ ⟨rfl, ⟨hh, rfl⟩ | ⟨hh, rfl⟩⟩)
    | (refine zv_S1 (bX7_word 3) rfl rfl rfl rfl ⟨rfl, rfl, rfl⟩ ⟨by decide, by decide⟩ ⟨Nat.zero_le _, Nat.zero_le _⟩ (hX7_isTwo _ _) ?_; rintro _ _ ⟨rfl, ⟨hh, rfl⟩ | ⟨hh, rfl⟩⟩)
    | (refine zv_S1 (bX7_word 3) rfl rfl rfl rfl ⟨rfl, rfl, rfl⟩ ⟨by decide, by decide⟩ ⟨Nat.zero_le _, Nat.zero_le _⟩ (hX7_mayKeep _ _) ?_; rintro _ _ ⟨rfl, ⟨hh, rfl⟩ | ⟨hh, rfl⟩⟩)
    | refine zv_iret (bX7_word 3) rfl (Or.inl rfl) (Nat.zero_le _) (Nat.zero_le _) ?_)
  all_goals first | exact ⟨_, rfl, ⟨trivial, rfl⟩⟩ | (exfalso; (try simp only [lg_cmp_lt, lg_cmp_gt, lg_cmp_ge, lg_cmp_le, lg_cmp_eq] at *); (try simp only [Int32.lt_iff_toInt_lt, Int32.le_iff_toInt_le, Int64.lt_iff_toInt_lt, Int64.le_iff_toInt_le, Int32.toInt_toInt64, lg_cmp_lt, lg_cmp_gt, lg_cmp_ge, lg_cmp_le, i8c, i16c, i32c, i64c, l0c, l1c, z32, i8e, i32e, Decidable.not_not, Int.reduceNeg, Int.reduceLE, Int.reduceLT, and_self, Int32.toInt_zero, Int.not_lt, Int.not_le, m1c] at *); omega)

set_option maxHeartbeats 4000000 in
set_option maxRecDepth 20000 in
theorem cM_sound (p1 p2 p3 : Int32) {w : zW} (h : ∀ j, 76 ≤ j → w[j]? = w0[j]?) : zK 3 zX7_sound [.ref 76, .int p1, .int p2, .int p3] w (fun r w' => ∃ a, r = some (.int a) ∧ R_sound p1 p2 p3 a) := by
  refine zK_of qX7_sound (by decide +kernel) rfl ?_
  repeat' (first
    | refine zv_step (bX7_sound 3) rfl rfl trivial ?_
    | refine zv_getf (bX7_sound 3) rfl ((h _ (by decide)).trans rfl) rfl ?_
    | refine zv_zald (bX7_sound 3) rfl ((h _ (by decide)).trans rfl) (by unfold vp_in; decide) ?_
    | refine zv_iald (bX7_sound 3) rfl ((h _ (by decide)).trans rfl) (by unfold vp_in; decide) ?_
    | (dsimp only; split)
    | (refine zv_V1 (bX7_sound 3) rfl rfl rfl ((h _ (by decide)).trans rfl) rfl rfl rfl ⟨rfl, rfl, rfl⟩ ⟨by decide, by decide⟩ ⟨Nat.zero_le _, Nat.zero_le _⟩ (mNode _ h) ?_; rintro _ _ ⟨rfl, rfl⟩)
    | (refine zv_S1 (bX7_sound 3) rfl rfl rfl rfl ⟨rfl, rfl, rfl⟩ ⟨by decide, by decide⟩ ⟨Nat.zero_le _, Nat.zero_le _⟩ (hX7_isStyle _ _) ?_; rintro _ _ ⟨rfl, ⟨hh, rfl⟩ | ⟨hh, rfl⟩⟩)
    | (refine zv_S1 (bX7_sound 3) rfl rfl rfl rfl ⟨rfl, rfl, rfl⟩ ⟨by decide, by decide⟩ ⟨Nat.zero_le _, Nat.zero_le _⟩ (hX7_isShelf _ _) ?_; rintro _ _ ⟨rfl, ⟨hh, rfl⟩ | ⟨hh, rfl⟩⟩)
    | (refine zv_S3 (bX7_sound 3) rfl rfl rfl rfl ⟨rfl, rfl, rfl⟩ ⟨by decide, by decide⟩ ⟨Nat.zero_le _, Nat.zero_le _⟩ (hX7_in _ _ _ _) ?_; rintro _ _ ⟨rfl, ⟨hh, rfl⟩ | ⟨hh, rfl⟩⟩)
    | (refine zv_S1 (bX7_sound 3) rfl rfl rfl rfl ⟨rfl, rfl, rfl⟩ ⟨by decide, by decide⟩ ⟨Nat.zero_le _, Nat.zero_le _⟩ (hX7_isTwo _ _) ?_; rintro _ _ ⟨rfl, ⟨hh, rfl⟩ | ⟨hh, rfl⟩⟩)
    | (refine zv_S1 (bX7_sound 3) rfl rfl rfl rfl ⟨rfl, rfl, rfl⟩ ⟨by decide, by decide⟩ ⟨Nat.zero_le _, Nat.zero_le _⟩ (hX7_mayKeep _ _) ?_; rintro _ _ ⟨rfl, ⟨hh, rfl⟩ | ⟨hh, rfl⟩⟩)
    | refine zv_iret (bX7_sound 3) rfl (Or.inl rfl) (Nat.zero_le _) (Nat.zero_le _) ?_)
  all_goals first | exact ⟨_, rfl, ⟨trivial, rfl⟩⟩ | (exfalso; (try simp only [lg_cmp_lt, lg_cmp_gt, lg_cmp_ge, lg_cmp_le, lg_cmp_eq] at *); (try simp only [Int32.lt_iff_toInt_lt, Int32.le_iff_toInt_le, Int64.lt_iff_toInt_lt, Int64.le_iff_toInt_le, Int32.toInt_toInt64, lg_cmp_lt, lg_cmp_gt, lg_cmp_ge, lg_cmp_le, i8c, i16c, i32c, i64c, l0c, l1c, z32, i8e, i32e, Decidable.not_not, Int.reduceNeg, Int.reduceLE, Int.reduceLT, and_self, Int32.toInt_zero, Int.not_lt, Int.not_le, m1c] at *); omega)

set_option maxHeartbeats 4000000 in
set_option maxRecDepth 20000 in
theorem cM_listen (p1 p2 : Int32) {w : zW} (h : ∀ j, 76 ≤ j → w[j]? = w0[j]?) : zK 3 zX7_listen [.ref 76, .int p1, .int p2] w (fun r w' => ∃ a, r = some (.int a) ∧ R_listen p1 p2 a) := by
  refine zK_of qX7_listen (by decide +kernel) rfl ?_
  repeat' (first
    | refine zv_step (bX7_listen 3) rfl rfl trivial ?_
    | refine zv_getf (bX7_listen 3) rfl ((h _ (by decide)).trans rfl) rfl ?_
    | refine zv_zald (bX7_listen 3) rfl ((h _ (by decide)).trans rfl) (by unfold vp_in; decide) ?_
    | refine zv_iald (bX7_listen 3) rfl ((h _ (by decide)).trans rfl) (by unfold vp_in; decide) ?_
    | (dsimp only; split)
    | (refine zv_V1 (bX7_listen 3) rfl rfl rfl ((h _ (by decide)).trans rfl) rfl rfl rfl ⟨rfl, rfl, rfl⟩ ⟨by decide, by decide⟩ ⟨Nat.zero_le _, Nat.zero_le _⟩ (mNode _ h) ?_; rintro _ _ ⟨rfl, rfl⟩)
    | (refine zv_S1 (bX7_listen 3) rfl rfl rfl rfl ⟨rfl, rfl, rfl⟩ ⟨by decide, by decide⟩ ⟨Nat.zero_le _, Nat.zero_le _⟩ (hX7_isStyle _ _) ?_; rintro _ _ ⟨rfl, ⟨hh, rfl⟩ | ⟨hh, rfl⟩⟩)
    | (refine zv_S1 (bX7_listen 3) rfl rfl rfl rfl ⟨rfl, rfl, rfl⟩ ⟨by decide, by decide⟩ ⟨Nat.zero_le _, Nat.zero_le _⟩ (hX7_isShelf _ _) ?_; rintro _ _ ⟨rfl, ⟨hh, rfl⟩ | ⟨hh, rfl⟩⟩)
    | (refine zv_S3 (bX7_listen 3) rfl rfl rfl rfl ⟨rfl, rfl, rfl⟩ ⟨by decide, by decide⟩ ⟨Nat.zero_le _, Nat.zero_le _⟩ (hX7_in _ _ _ _) ?_; rintro _ _ ⟨rfl, ⟨hh, rfl⟩ | ⟨hh, rfl⟩⟩)
    | (refine zv_S1 (bX7_listen 3) rfl rfl rfl rfl ⟨rfl, rfl, rfl⟩ ⟨by decide, by decide⟩ ⟨Nat.zero_le _, Nat.zero_le _⟩ (hX7_isTwo _ _) ?_; rintro _ _ ⟨rfl, ⟨hh, rfl⟩ | ⟨hh, rfl⟩⟩)
    | (refine zv_S1 (bX7_listen 3) rfl rfl rfl rfl ⟨rfl, rfl, rfl⟩ ⟨by decide, by decide⟩ ⟨Nat.zero_le _, Nat.zero_le _⟩ (hX7_mayKeep _ _) ?_; rintro _ _ ⟨rfl, ⟨hh, rfl⟩ | ⟨hh, rfl⟩⟩)
    | refine zv_iret (bX7_listen 3) rfl (Or.inl rfl) (Nat.zero_le _) (Nat.zero_le _) ?_)
  all_goals first | exact ⟨_, rfl, ⟨trivial, rfl⟩⟩ | (exfalso; (try simp only [lg_cmp_lt, lg_cmp_gt, lg_cmp_ge, lg_cmp_le, lg_cmp_eq] at *); (try simp only [Int32.lt_iff_toInt_lt, Int32.le_iff_toInt_le, Int64.lt_iff_toInt_lt, Int64.le_iff_toInt_le, Int32.toInt_toInt64, lg_cmp_lt, lg_cmp_gt, lg_cmp_ge, lg_cmp_le, i8c, i16c, i32c, i64c, l0c, l1c, z32, i8e, i32e, Decidable.not_not, Int.reduceNeg, Int.reduceLE, Int.reduceLT, and_self, Int32.toInt_zero, Int.not_lt, Int.not_le, m1c] at *); omega)

set_option maxHeartbeats 4000000 in
set_option maxRecDepth 20000 in
theorem cM_fewest (p1 : Int32) {w : zW} (h : ∀ j, 76 ≤ j → w[j]? = w0[j]?) : zK 3 zX7_fewest [.ref 76, .int p1] w (fun r w' => ∃ a, r = some (.int a) ∧ R_fewest p1 a) := by
  refine zK_of qX7_fewest (by decide +kernel) rfl ?_
  repeat' (first
    | refine zv_step (bX7_fewest 3) rfl rfl trivial ?_
    | refine zv_getf (bX7_fewest 3) rfl ((h _ (by decide)).trans rfl) rfl ?_
    | refine zv_zald (bX7_fewest 3) rfl ((h _ (by decide)).trans rfl) (by unfold vp_in; decide) ?_
    | refine zv_iald (bX7_fewest 3) rfl ((h _ (by decide)).trans rfl) (by unfold vp_in; decide) ?_
    | (dsimp only; split)
    | (refine zv_V1 (bX7_fewest 3) rfl rfl rfl ((h _ (by decide)).trans rfl) rfl rfl rfl ⟨rfl, rfl, rfl⟩ ⟨by decide, by decide⟩ ⟨Nat.zero_le _, Nat.zero_le _⟩ (mNode _ h) ?_; rintro _ _ ⟨rfl, rfl⟩)
    | (refine zv_S1 (bX7_fewest 3) rfl rfl rfl rfl ⟨rfl, rfl, rfl⟩ ⟨by decide, by decide⟩ ⟨Nat.zero_le _, Nat.zero_le _⟩ (hX7_isStyle _ _) ?_; rintro _ _ ⟨rfl, ⟨hh, rfl⟩ | ⟨hh, rfl⟩⟩)
    | (refine zv_S1 (bX7_fewest 3) rfl rfl rfl rfl ⟨rfl, rfl, rfl⟩ ⟨by decide, by decide⟩ ⟨Nat.zero_le _, Nat.zero_le _⟩ (hX7_isShelf _ _) ?_; rintro _ _ ⟨rfl, ⟨hh, rfl⟩ | ⟨hh, rfl⟩⟩)
    | (refine zv_S3 (bX7_fewest 3) rfl rfl rfl rfl ⟨rfl, rfl, rfl⟩ ⟨by decide, by decide⟩ ⟨Nat.zero_le _, Nat.zero_le _⟩ (hX7_in _ _ _ _) ?_; rintro _ _ ⟨rfl, ⟨hh, rfl⟩ | ⟨hh, rfl⟩⟩)
    | (refine zv_S1 (bX7_fewest 3) rfl rfl rfl rfl ⟨rfl, rfl, rfl⟩ ⟨by decide, by decide⟩ ⟨Nat.zero_le _, Nat.zero_le _⟩ (hX7_isTwo _ _) ?_; rintro _ _ ⟨rfl, ⟨hh, rfl⟩ | ⟨hh, rfl⟩⟩)
    | (refine zv_S1 (bX7_fewest 3) rfl rfl rfl rfl ⟨rfl, rfl, rfl⟩ ⟨by decide, by decide⟩ ⟨Nat.zero_le _, Nat.zero_le _⟩ (hX7_mayKeep _ _) ?_; rintro _ _ ⟨rfl, ⟨hh, rfl⟩ | ⟨hh, rfl⟩⟩)
    | refine zv_iret (bX7_fewest 3) rfl (Or.inl rfl) (Nat.zero_le _) (Nat.zero_le _) ?_)
  all_goals first | exact ⟨_, rfl, ⟨trivial, rfl⟩⟩ | (exfalso; (try simp only [lg_cmp_lt, lg_cmp_gt, lg_cmp_ge, lg_cmp_le, lg_cmp_eq] at *); (try simp only [Int32.lt_iff_toInt_lt, Int32.le_iff_toInt_le, Int64.lt_iff_toInt_lt, Int64.le_iff_toInt_le, Int32.toInt_toInt64, lg_cmp_lt, lg_cmp_gt, lg_cmp_ge, lg_cmp_le, i8c, i16c, i32c, i64c, l0c, l1c, z32, i8e, i32e, Decidable.not_not, Int.reduceNeg, Int.reduceLE, Int.reduceLT, and_self, Int32.toInt_zero, Int.not_lt, Int.not_le, m1c] at *); omega)

set_option maxHeartbeats 4000000 in
set_option maxRecDepth 20000 in
theorem cM_walk (p1 : Int32) {w : zW} (h : ∀ j, 76 ≤ j → w[j]? = w0[j]?) : zK 3 zX7_walk [.ref 76, .int p1] w (fun r w' => ∃ a, r = some (.int a) ∧ R_walk p1 a) := by
  refine zK_of qX7_walk (by decide +kernel) rfl ?_
  repeat' (first
    | refine zv_step (bX7_walk 3) rfl rfl trivial ?_
    | refine zv_getf (bX7_walk 3) rfl ((h _ (by decide)).trans rfl) rfl ?_
    | refine zv_zald (bX7_walk 3) rfl ((h _ (by decide)).trans rfl) (by unfold vp_in; decide) ?_
    | refine zv_iald (bX7_walk 3) rfl ((h _ (by decide)).trans rfl) (by unfold vp_in; decide) ?_
    | (dsimp only; split)
    | (refine zv_V1 (bX7_walk 3) rfl rfl rfl ((h _ (by decide)).trans rfl) rfl rfl rfl ⟨rfl, rfl, rfl⟩ ⟨by decide, by decide⟩ ⟨Nat.zero_le _, Nat.zero_le _⟩ (mNode _ h) ?_; rintro _ _ ⟨rfl, rfl⟩)
    | (refine zv_S1 (bX7_walk 3) rfl rfl rfl rfl ⟨rfl, rfl, rfl⟩ ⟨by decide, by decide⟩ ⟨Nat.zero_le _, Nat.zero_le _⟩ (hX7_isStyle _ _) ?_; rintro _ _ ⟨rfl, ⟨hh, rfl⟩ | ⟨hh, rfl⟩⟩)
    | (refine zv_S1 (bX7_walk 3) rfl rfl rfl rfl ⟨rfl, rfl, rfl⟩ ⟨by decide, by decide⟩ ⟨Nat.zero_le _, Nat.zero_le _⟩ (hX7_isShelf _ _) ?_; rintro _ _ ⟨rfl, ⟨hh, rfl⟩ | ⟨hh, rfl⟩⟩)
    | (refine zv_S3 (bX7_walk 3) rfl rfl rfl rfl ⟨rfl, rfl, rfl⟩ ⟨by decide, by decide⟩ ⟨Nat.zero_le _, Nat.zero_le _⟩ (hX7_in _ _ _ _) ?_; rintro _ _ ⟨rfl, ⟨hh, rfl⟩ | ⟨hh, rfl⟩⟩)
    | (refine zv_S1 (bX7_walk 3) rfl rfl rfl rfl ⟨rfl, rfl, rfl⟩ ⟨by decide, by decide⟩ ⟨Nat.zero_le _, Nat.zero_le _⟩ (hX7_isTwo _ _) ?_; rintro _ _ ⟨rfl, ⟨hh, rfl⟩ | ⟨hh, rfl⟩⟩)
    | (refine zv_S1 (bX7_walk 3) rfl rfl rfl rfl ⟨rfl, rfl, rfl⟩ ⟨by decide, by decide⟩ ⟨Nat.zero_le _, Nat.zero_le _⟩ (hX7_mayKeep _ _) ?_; rintro _ _ ⟨rfl, ⟨hh, rfl⟩ | ⟨hh, rfl⟩⟩)
    | refine zv_iret (bX7_walk 3) rfl (Or.inl rfl) (Nat.zero_le _) (Nat.zero_le _) ?_)
  all_goals first | exact ⟨_, rfl, ⟨trivial, rfl⟩⟩ | (exfalso; (try simp only [lg_cmp_lt, lg_cmp_gt, lg_cmp_ge, lg_cmp_le, lg_cmp_eq] at *); (try simp only [Int32.lt_iff_toInt_lt, Int32.le_iff_toInt_le, Int64.lt_iff_toInt_lt, Int64.le_iff_toInt_le, Int32.toInt_toInt64, lg_cmp_lt, lg_cmp_gt, lg_cmp_ge, lg_cmp_le, i8c, i16c, i32c, i64c, l0c, l1c, z32, i8e, i32e, Decidable.not_not, Int.reduceNeg, Int.reduceLE, Int.reduceLT, and_self, Int32.toInt_zero, Int.not_lt, Int.not_le, m1c] at *); omega)

set_option maxHeartbeats 4000000 in
set_option maxRecDepth 20000 in
theorem cM_changed (p1 p2 : Int32) {w : zW} (h : ∀ j, 76 ≤ j → w[j]? = w0[j]?) : zK 3 zX7_changed [.ref 76, .int p1, .int p2] w (fun r w' => ∃ a, r = some (.int a) ∧ R_changed p1 p2 a) := by
  refine zK_of qX7_changed (by decide +kernel) rfl ?_
  repeat' (first
    | refine zv_step (bX7_changed 3) rfl rfl trivial ?_
    | refine zv_getf (bX7_changed 3) rfl ((h _ (by decide)).trans rfl) rfl ?_
    | refine zv_zald (bX7_changed 3) rfl ((h _ (by decide)).trans rfl) (by unfold vp_in; decide) ?_
    | refine zv_iald (bX7_changed 3) rfl ((h _ (by decide)).trans rfl) (by unfold vp_in; decide) ?_
    | (dsimp only; split)
    | (refine zv_V1 (bX7_changed 3) rfl rfl rfl ((h _ (by decide)).trans rfl) rfl rfl rfl ⟨rfl, rfl, rfl⟩ ⟨by decide, by decide⟩ ⟨Nat.zero_le _, Nat.zero_le _⟩ (mNode _ h) ?_; rintro _ _ ⟨rfl, rfl⟩)
    | (refine zv_S1 (bX7_changed 3) rfl rfl rfl rfl ⟨rfl, rfl, rfl⟩ ⟨by decide, by decide⟩ ⟨Nat.zero_le _, Nat.zero_le _⟩ (hX7_isStyle _ _) ?_; rintro _ _ ⟨rfl, ⟨hh, rfl⟩ | ⟨hh, rfl⟩⟩)
    | (refine zv_S1 (bX7_changed 3) rfl rfl rfl rfl ⟨rfl, rfl, rfl⟩ ⟨by decide, by decide⟩ ⟨Nat.zero_le _, Nat.zero_le _⟩ (hX7_isShelf _ _) ?_; rintro _ _ ⟨rfl, ⟨hh, rfl⟩ | ⟨hh, rfl⟩⟩)
    | (refine zv_S3 (bX7_changed 3) rfl rfl rfl rfl ⟨rfl, rfl, rfl⟩ ⟨by decide, by decide⟩ ⟨Nat.zero_le _, Nat.zero_le _⟩ (hX7_in _ _ _ _) ?_; rintro _ _ ⟨rfl, ⟨hh, rfl⟩ | ⟨hh, rfl⟩⟩)
    | (refine zv_S1 (bX7_changed 3) rfl rfl rfl rfl ⟨rfl, rfl, rfl⟩ ⟨by decide, by decide⟩ ⟨Nat.zero_le _, Nat.zero_le _⟩ (hX7_isTwo _ _) ?_; rintro _ _ ⟨rfl, ⟨hh, rfl⟩ | ⟨hh, rfl⟩⟩)
    | (refine zv_S1 (bX7_changed 3) rfl rfl rfl rfl ⟨rfl, rfl, rfl⟩ ⟨by decide, by decide⟩ ⟨Nat.zero_le _, Nat.zero_le _⟩ (hX7_mayKeep _ _) ?_; rintro _ _ ⟨rfl, ⟨hh, rfl⟩ | ⟨hh, rfl⟩⟩)
    | refine zv_iret (bX7_changed 3) rfl (Or.inl rfl) (Nat.zero_le _) (Nat.zero_le _) ?_)
  all_goals first | exact ⟨_, rfl, ⟨trivial, rfl⟩⟩ | (exfalso; (try simp only [lg_cmp_lt, lg_cmp_gt, lg_cmp_ge, lg_cmp_le, lg_cmp_eq] at *); (try simp only [Int32.lt_iff_toInt_lt, Int32.le_iff_toInt_le, Int64.lt_iff_toInt_lt, Int64.le_iff_toInt_le, Int32.toInt_toInt64, lg_cmp_lt, lg_cmp_gt, lg_cmp_ge, lg_cmp_le, i8c, i16c, i32c, i64c, l0c, l1c, z32, i8e, i32e, Decidable.not_not, Int.reduceNeg, Int.reduceLE, Int.reduceLT, and_self, Int32.toInt_zero, Int.not_lt, Int.not_le, m1c] at *); omega)

set_option maxHeartbeats 4000000 in
set_option maxRecDepth 20000 in
theorem cM_exchanged (p1 p2 : Int32) {w : zW} (h : ∀ j, 76 ≤ j → w[j]? = w0[j]?) : zK 3 zX7_exchanged [.ref 76, .int p1, .int p2] w (fun r w' => ∃ a, r = some (.int a) ∧ R_exchanged p1 p2 a) := by
  refine zK_of qX7_exchanged (by decide +kernel) rfl ?_
  repeat' (first
    | refine zv_step (bX7_exchanged 3) rfl rfl trivial ?_
    | refine zv_getf (bX7_exchanged 3) rfl ((h _ (by decide)).trans rfl) rfl ?_
    | refine zv_zald (bX7_exchanged 3) rfl ((h _ (by decide)).trans rfl) (by unfold vp_in; decide) ?_
    | refine zv_iald (bX7_exchanged 3) rfl ((h _ (by decide)).trans rfl) (by unfold vp_in; decide) ?_
    | (dsimp only; split)
    | (refine zv_V1 (bX7_exchanged 3) rfl rfl rfl ((h _ (by decide)).trans rfl) rfl rfl rfl ⟨rfl, rfl, rfl⟩ ⟨by decide, by decide⟩ ⟨Nat.zero_le _, Nat.zero_le _⟩ (mNode _ h) ?_; rintro _ _ ⟨rfl, rfl⟩)
    | (refine zv_S1 (bX7_exchanged 3) rfl rfl rfl rfl ⟨rfl, rfl, rfl⟩ ⟨by decide, by decide⟩ ⟨Nat.zero_le _, Nat.zero_le _⟩ (hX7_isStyle _ _) ?_; rintro _ _ ⟨rfl, ⟨hh, rfl⟩ | ⟨hh, rfl⟩⟩)
    | (refine zv_S1 (bX7_exchanged 3) rfl rfl rfl rfl ⟨rfl, rfl, rfl⟩ ⟨by decide, by decide⟩ ⟨Nat.zero_le _, Nat.zero_le _⟩ (hX7_isShelf _ _) ?_; rintro _ _ ⟨rfl, ⟨hh, rfl⟩ | ⟨hh, rfl⟩⟩)
    | (refine zv_S3 (bX7_exchanged 3) rfl rfl rfl rfl ⟨rfl, rfl, rfl⟩ ⟨by decide, by decide⟩ ⟨Nat.zero_le _, Nat.zero_le _⟩ (hX7_in _ _ _ _) ?_; rintro _ _ ⟨rfl, ⟨hh, rfl⟩ | ⟨hh, rfl⟩⟩)
    | (refine zv_S1 (bX7_exchanged 3) rfl rfl rfl rfl ⟨rfl, rfl, rfl⟩ ⟨by decide, by decide⟩ ⟨Nat.zero_le _, Nat.zero_le _⟩ (hX7_isTwo _ _) ?_; rintro _ _ ⟨rfl, ⟨hh, rfl⟩ | ⟨hh, rfl⟩⟩)
    | (refine zv_S1 (bX7_exchanged 3) rfl rfl rfl rfl ⟨rfl, rfl, rfl⟩ ⟨by decide, by decide⟩ ⟨Nat.zero_le _, Nat.zero_le _⟩ (hX7_mayKeep _ _) ?_; rintro _ _ ⟨rfl, ⟨hh, rfl⟩ | ⟨hh, rfl⟩⟩)
    | refine zv_iret (bX7_exchanged 3) rfl (Or.inl rfl) (Nat.zero_le _) (Nat.zero_le _) ?_)
  all_goals first | exact ⟨_, rfl, ⟨trivial, rfl⟩⟩ | (exfalso; (try simp only [lg_cmp_lt, lg_cmp_gt, lg_cmp_ge, lg_cmp_le, lg_cmp_eq] at *); (try simp only [Int32.lt_iff_toInt_lt, Int32.le_iff_toInt_le, Int64.lt_iff_toInt_lt, Int64.le_iff_toInt_le, Int32.toInt_toInt64, lg_cmp_lt, lg_cmp_gt, lg_cmp_ge, lg_cmp_le, i8c, i16c, i32c, i64c, l0c, l1c, z32, i8e, i32e, Decidable.not_not, Int.reduceNeg, Int.reduceLE, Int.reduceLT, and_self, Int32.toInt_zero, Int.not_lt, Int.not_le, m1c] at *); omega)

set_option maxHeartbeats 4000000 in
set_option maxRecDepth 20000 in
theorem cM_ear (p1 : Int32) {w : zW} (h : ∀ j, 76 ≤ j → w[j]? = w0[j]?) : zK 3 zX7_ear [.ref 76, .int p1] w (fun r w' => ∃ a, r = some (.int a) ∧ R_ear p1 a) := by
  refine zK_of qX7_ear (by decide +kernel) rfl ?_
  repeat' (first
    | refine zv_step (bX7_ear 3) rfl rfl trivial ?_
    | refine zv_getf (bX7_ear 3) rfl ((h _ (by decide)).trans rfl) rfl ?_
    | refine zv_zald (bX7_ear 3) rfl ((h _ (by decide)).trans rfl) (by unfold vp_in; decide) ?_
    | refine zv_iald (bX7_ear 3) rfl ((h _ (by decide)).trans rfl) (by unfold vp_in; decide) ?_
    | (dsimp only; split)
    | (refine zv_V1 (bX7_ear 3) rfl rfl rfl ((h _ (by decide)).trans rfl) rfl rfl rfl ⟨rfl, rfl, rfl⟩ ⟨by decide, by decide⟩ ⟨Nat.zero_le _, Nat.zero_le _⟩ (mNode _ h) ?_; rintro _ _ ⟨rfl, rfl⟩)
    | (refine zv_S1 (bX7_ear 3) rfl rfl rfl rfl ⟨rfl, rfl, rfl⟩ ⟨by decide, by decide⟩ ⟨Nat.zero_le _, Nat.zero_le _⟩ (hX7_isStyle _ _) ?_; rintro _ _ ⟨rfl, ⟨hh, rfl⟩ | ⟨hh, rfl⟩⟩)
    | (refine zv_S1 (bX7_ear 3) rfl rfl rfl rfl ⟨rfl, rfl, rfl⟩ ⟨by decide, by decide⟩ ⟨Nat.zero_le _, Nat.zero_le _⟩ (hX7_isShelf _ _) ?_; rintro _ _ ⟨rfl, ⟨hh, rfl⟩ | ⟨hh, rfl⟩⟩)
    | (refine zv_S3 (bX7_ear 3) rfl rfl rfl rfl ⟨rfl, rfl, rfl⟩ ⟨by decide, by decide⟩ ⟨Nat.zero_le _, Nat.zero_le _⟩ (hX7_in _ _ _ _) ?_; rintro _ _ ⟨rfl, ⟨hh, rfl⟩ | ⟨hh, rfl⟩⟩)
    | (refine zv_S1 (bX7_ear 3) rfl rfl rfl rfl ⟨rfl, rfl, rfl⟩ ⟨by decide, by decide⟩ ⟨Nat.zero_le _, Nat.zero_le _⟩ (hX7_isTwo _ _) ?_; rintro _ _ ⟨rfl, ⟨hh, rfl⟩ | ⟨hh, rfl⟩⟩)
    | (refine zv_S1 (bX7_ear 3) rfl rfl rfl rfl ⟨rfl, rfl, rfl⟩ ⟨by decide, by decide⟩ ⟨Nat.zero_le _, Nat.zero_le _⟩ (hX7_mayKeep _ _) ?_; rintro _ _ ⟨rfl, ⟨hh, rfl⟩ | ⟨hh, rfl⟩⟩)
    | refine zv_iret (bX7_ear 3) rfl (Or.inl rfl) (Nat.zero_le _) (Nat.zero_le _) ?_)
  all_goals first | exact ⟨_, rfl, ⟨trivial, rfl⟩⟩ | (exfalso; (try simp only [lg_cmp_lt, lg_cmp_gt, lg_cmp_ge, lg_cmp_le, lg_cmp_eq] at *); (try simp only [Int32.lt_iff_toInt_lt, Int32.le_iff_toInt_le, Int64.lt_iff_toInt_lt, Int64.le_iff_toInt_le, Int32.toInt_toInt64, lg_cmp_lt, lg_cmp_gt, lg_cmp_ge, lg_cmp_le, i8c, i16c, i32c, i64c, l0c, l1c, z32, i8e, i32e, Decidable.not_not, Int.reduceNeg, Int.reduceLE, Int.reduceLT, and_self, Int32.toInt_zero, Int.not_lt, Int.not_le, m1c] at *); omega)

set_option maxHeartbeats 4000000 in
set_option maxRecDepth 20000 in
theorem cM_hush  {w : zW} (h : ∀ j, 76 ≤ j → w[j]? = w0[j]?) : zK 3 zX7_hush [.ref 76] w (fun r w' => ∃ a, r = some (.int a) ∧ R_hush a) := by
  refine zK_of qX7_hush (by decide +kernel) rfl ?_
  repeat' (first
    | refine zv_step (bX7_hush 3) rfl rfl trivial ?_
    | refine zv_getf (bX7_hush 3) rfl ((h _ (by decide)).trans rfl) rfl ?_
    | refine zv_zald (bX7_hush 3) rfl ((h _ (by decide)).trans rfl) (by unfold vp_in; decide) ?_
    | refine zv_iald (bX7_hush 3) rfl ((h _ (by decide)).trans rfl) (by unfold vp_in; decide) ?_
    | (dsimp only; split)
    | (refine zv_V1 (bX7_hush 3) rfl rfl rfl ((h _ (by decide)).trans rfl) rfl rfl rfl ⟨rfl, rfl, rfl⟩ ⟨by decide, by decide⟩ ⟨Nat.zero_le _, Nat.zero_le _⟩ (mNode _ h) ?_; rintro _ _ ⟨rfl, rfl⟩)
    | (refine zv_S1 (bX7_hush 3) rfl rfl rfl rfl ⟨rfl, rfl, rfl⟩ ⟨by decide, by decide⟩ ⟨Nat.zero_le _, Nat.zero_le _⟩ (hX7_isStyle _ _) ?_; rintro _ _ ⟨rfl, ⟨hh, rfl⟩ | ⟨hh, rfl⟩⟩)
    | (refine zv_S1 (bX7_hush 3) rfl rfl rfl rfl ⟨rfl, rfl, rfl⟩ ⟨by decide, by decide⟩ ⟨Nat.zero_le _, Nat.zero_le _⟩ (hX7_isShelf _ _) ?_; rintro _ _ ⟨rfl, ⟨hh, rfl⟩ | ⟨hh, rfl⟩⟩)
    | (refine zv_S3 (bX7_hush 3) rfl rfl rfl rfl ⟨rfl, rfl, rfl⟩ ⟨by decide, by decide⟩ ⟨Nat.zero_le _, Nat.zero_le _⟩ (hX7_in _ _ _ _) ?_; rintro _ _ ⟨rfl, ⟨hh, rfl⟩ | ⟨hh, rfl⟩⟩)
    | (refine zv_S1 (bX7_hush 3) rfl rfl rfl rfl ⟨rfl, rfl, rfl⟩ ⟨by decide, by decide⟩ ⟨Nat.zero_le _, Nat.zero_le _⟩ (hX7_isTwo _ _) ?_; rintro _ _ ⟨rfl, ⟨hh, rfl⟩ | ⟨hh, rfl⟩⟩)
    | (refine zv_S1 (bX7_hush 3) rfl rfl rfl rfl ⟨rfl, rfl, rfl⟩ ⟨by decide, by decide⟩ ⟨Nat.zero_le _, Nat.zero_le _⟩ (hX7_mayKeep _ _) ?_; rintro _ _ ⟨rfl, ⟨hh, rfl⟩ | ⟨hh, rfl⟩⟩)
    | refine zv_putf (bX7_hush 3) rfl ((h _ (by decide)).trans rfl) rfl rfl ?_
    | refine zv_iret (bX7_hush 3) rfl (Or.inl rfl) (Nat.zero_le _) (Nat.zero_le _) ?_)
  all_goals first | exact ⟨_, rfl, ⟨trivial, rfl⟩⟩ | (exfalso; (try simp only [lg_cmp_lt, lg_cmp_gt, lg_cmp_ge, lg_cmp_le, lg_cmp_eq] at *); (try simp only [Int32.lt_iff_toInt_lt, Int32.le_iff_toInt_le, Int64.lt_iff_toInt_lt, Int64.le_iff_toInt_le, Int32.toInt_toInt64, lg_cmp_lt, lg_cmp_gt, lg_cmp_ge, lg_cmp_le, i8c, i16c, i32c, i64c, l0c, l1c, z32, i8e, i32e, Decidable.not_not, Int.reduceNeg, Int.reduceLE, Int.reduceLT, and_self, Int32.toInt_zero, Int.not_lt, Int.not_le, m1c] at *); omega)

set_option maxHeartbeats 4000000 in
set_option maxRecDepth 20000 in
theorem cM_go (p1 : Int32) {w : zW} (h : ∀ j, 76 ≤ j → w[j]? = w0[j]?) : zK 3 zX7_go [.ref 76, .int p1] w (fun r w' => ∃ a, r = some (.int a) ∧ R_go p1 a) := by
  refine zK_of qX7_go (by decide +kernel) rfl ?_
  repeat' (first
    | refine zv_step (bX7_go 3) rfl rfl trivial ?_
    | refine zv_getf (bX7_go 3) rfl ((h _ (by decide)).trans rfl) rfl ?_
    | refine zv_zald (bX7_go 3) rfl ((h _ (by decide)).trans rfl) (by unfold vp_in; decide) ?_
    | refine zv_iald (bX7_go 3) rfl ((h _ (by decide)).trans rfl) (by unfold vp_in; decide) ?_
    | (dsimp only; split)
    | (refine zv_V1 (bX7_go 3) rfl rfl rfl ((h _ (by decide)).trans rfl) rfl rfl rfl ⟨rfl, rfl, rfl⟩ ⟨by decide, by decide⟩ ⟨Nat.zero_le _, Nat.zero_le _⟩ (mNode _ h) ?_; rintro _ _ ⟨rfl, rfl⟩)
    | (refine zv_S1 (bX7_go 3) rfl rfl rfl rfl ⟨rfl, rfl, rfl⟩ ⟨by decide, by decide⟩ ⟨Nat.zero_le _, Nat.zero_le _⟩ (hX7_isStyle _ _) ?_; rintro _ _ ⟨rfl, ⟨hh, rfl⟩ | ⟨hh, rfl⟩⟩)
    | (refine zv_S1 (bX7_go 3) rfl rfl rfl rfl ⟨rfl, rfl, rfl⟩ ⟨by decide, by decide⟩ ⟨Nat.zero_le _, Nat.zero_le _⟩ (hX7_isShelf _ _) ?_; rintro _ _ ⟨rfl, ⟨hh, rfl⟩ | ⟨hh, rfl⟩⟩)
    | (refine zv_S3 (bX7_go 3) rfl rfl rfl rfl ⟨rfl, rfl, rfl⟩ ⟨by decide, by decide⟩ ⟨Nat.zero_le _, Nat.zero_le _⟩ (hX7_in _ _ _ _) ?_; rintro _ _ ⟨rfl, ⟨hh, rfl⟩ | ⟨hh, rfl⟩⟩)
    | (refine zv_S1 (bX7_go 3) rfl rfl rfl rfl ⟨rfl, rfl, rfl⟩ ⟨by decide, by decide⟩ ⟨Nat.zero_le _, Nat.zero_le _⟩ (hX7_isTwo _ _) ?_; rintro _ _ ⟨rfl, ⟨hh, rfl⟩ | ⟨hh, rfl⟩⟩)
    | (refine zv_S1 (bX7_go 3) rfl rfl rfl rfl ⟨rfl, rfl, rfl⟩ ⟨by decide, by decide⟩ ⟨Nat.zero_le _, Nat.zero_le _⟩ (hX7_mayKeep _ _) ?_; rintro _ _ ⟨rfl, ⟨hh, rfl⟩ | ⟨hh, rfl⟩⟩)
    | refine zv_iret (bX7_go 3) rfl (Or.inl rfl) (Nat.zero_le _) (Nat.zero_le _) ?_)
  all_goals first | exact ⟨_, rfl, Or.inl (⟨(by first | decide | ((try simp only [lg_cmp_lt, lg_cmp_gt, lg_cmp_ge, lg_cmp_le, lg_cmp_eq] at *); (try simp only [Int32.lt_iff_toInt_lt, Int32.le_iff_toInt_le, Int64.lt_iff_toInt_lt, Int64.le_iff_toInt_le, Int32.toInt_toInt64, lg_cmp_lt, lg_cmp_gt, lg_cmp_ge, lg_cmp_le, i8c, i16c, i32c, i64c, l0c, l1c, z32, i8e, i32e, Decidable.not_not, Int.reduceNeg, Int.reduceLE, Int.reduceLT, and_self, Int32.toInt_zero, Int.not_lt, Int.not_le, m1c] at *); omega)), rfl⟩)⟩ | exact ⟨_, rfl, Or.inr (⟨(by first | decide | ((try simp only [lg_cmp_lt, lg_cmp_gt, lg_cmp_ge, lg_cmp_le, lg_cmp_eq] at *); (try simp only [Int32.lt_iff_toInt_lt, Int32.le_iff_toInt_le, Int64.lt_iff_toInt_lt, Int64.le_iff_toInt_le, Int32.toInt_toInt64, lg_cmp_lt, lg_cmp_gt, lg_cmp_ge, lg_cmp_le, i8c, i16c, i32c, i64c, l0c, l1c, z32, i8e, i32e, Decidable.not_not, Int.reduceNeg, Int.reduceLE, Int.reduceLT, and_self, Int32.toInt_zero, Int.not_lt, Int.not_le, m1c] at *); omega)), rfl⟩)⟩ | (exfalso; (try simp only [lg_cmp_lt, lg_cmp_gt, lg_cmp_ge, lg_cmp_le, lg_cmp_eq] at *); (try simp only [Int32.lt_iff_toInt_lt, Int32.le_iff_toInt_le, Int64.lt_iff_toInt_lt, Int64.le_iff_toInt_le, Int32.toInt_toInt64, lg_cmp_lt, lg_cmp_gt, lg_cmp_ge, lg_cmp_le, i8c, i16c, i32c, i64c, l0c, l1c, z32, i8e, i32e, Decidable.not_not, Int.reduceNeg, Int.reduceLE, Int.reduceLT, and_self, Int32.toInt_zero, Int.not_lt, Int.not_le, m1c] at *); omega)

set_option maxHeartbeats 4000000 in
set_option maxRecDepth 20000 in
theorem cM_lead (p1 : Int32) {w : zW} (h : ∀ j, 76 ≤ j → w[j]? = w0[j]?) : zK 3 zX7_lead [.ref 76, .int p1] w (fun r w' => ∃ a, r = some (.int a) ∧ R_lead p1 a) := by
  refine zK_of qX7_lead (by decide +kernel) rfl ?_
  repeat' (first
    | refine zv_step (bX7_lead 3) rfl rfl trivial ?_
    | refine zv_getf (bX7_lead 3) rfl ((h _ (by decide)).trans rfl) rfl ?_
    | refine zv_zald (bX7_lead 3) rfl ((h _ (by decide)).trans rfl) (by unfold vp_in; decide) ?_
    | refine zv_iald (bX7_lead 3) rfl ((h _ (by decide)).trans rfl) (by unfold vp_in; decide) ?_
    | (dsimp only; split)
    | (refine zv_V1 (bX7_lead 3) rfl rfl rfl ((h _ (by decide)).trans rfl) rfl rfl rfl ⟨rfl, rfl, rfl⟩ ⟨by decide, by decide⟩ ⟨Nat.zero_le _, Nat.zero_le _⟩ (mNode _ h) ?_; rintro _ _ ⟨rfl, rfl⟩)
    | (refine zv_S1 (bX7_lead 3) rfl rfl rfl rfl ⟨rfl, rfl, rfl⟩ ⟨by decide, by decide⟩ ⟨Nat.zero_le _, Nat.zero_le _⟩ (hX7_isStyle _ _) ?_; rintro _ _ ⟨rfl, ⟨hh, rfl⟩ | ⟨hh, rfl⟩⟩)
    | (refine zv_S1 (bX7_lead 3) rfl rfl rfl rfl ⟨rfl, rfl, rfl⟩ ⟨by decide, by decide⟩ ⟨Nat.zero_le _, Nat.zero_le _⟩ (hX7_isShelf _ _) ?_; rintro _ _ ⟨rfl, ⟨hh, rfl⟩ | ⟨hh, rfl⟩⟩)
    | (refine zv_S3 (bX7_lead 3) rfl rfl rfl rfl ⟨rfl, rfl, rfl⟩ ⟨by decide, by decide⟩ ⟨Nat.zero_le _, Nat.zero_le _⟩ (hX7_in _ _ _ _) ?_; rintro _ _ ⟨rfl, ⟨hh, rfl⟩ | ⟨hh, rfl⟩⟩)
    | (refine zv_S1 (bX7_lead 3) rfl rfl rfl rfl ⟨rfl, rfl, rfl⟩ ⟨by decide, by decide⟩ ⟨Nat.zero_le _, Nat.zero_le _⟩ (hX7_isTwo _ _) ?_; rintro _ _ ⟨rfl, ⟨hh, rfl⟩ | ⟨hh, rfl⟩⟩)
    | (refine zv_S1 (bX7_lead 3) rfl rfl rfl rfl ⟨rfl, rfl, rfl⟩ ⟨by decide, by decide⟩ ⟨Nat.zero_le _, Nat.zero_le _⟩ (hX7_mayKeep _ _) ?_; rintro _ _ ⟨rfl, ⟨hh, rfl⟩ | ⟨hh, rfl⟩⟩)
    | refine zv_iret (bX7_lead 3) rfl (Or.inl rfl) (Nat.zero_le _) (Nat.zero_le _) ?_)
  all_goals first | exact ⟨_, rfl, ⟨trivial, rfl⟩⟩ | (exfalso; (try simp only [lg_cmp_lt, lg_cmp_gt, lg_cmp_ge, lg_cmp_le, lg_cmp_eq] at *); (try simp only [Int32.lt_iff_toInt_lt, Int32.le_iff_toInt_le, Int64.lt_iff_toInt_lt, Int64.le_iff_toInt_le, Int32.toInt_toInt64, lg_cmp_lt, lg_cmp_gt, lg_cmp_ge, lg_cmp_le, i8c, i16c, i32c, i64c, l0c, l1c, z32, i8e, i32e, Decidable.not_not, Int.reduceNeg, Int.reduceLE, Int.reduceLT, and_self, Int32.toInt_zero, Int.not_lt, Int.not_le, m1c] at *); omega)

set_option maxHeartbeats 4000000 in
set_option maxRecDepth 20000 in
theorem cM_glance (p1 p2 : Int32) {w : zW} (h : ∀ j, 76 ≤ j → w[j]? = w0[j]?) : zK 3 zX7_glance [.ref 76, .int p1, .int p2] w (fun r w' => ∃ a, r = some (.int a) ∧ R_glance p1 p2 a) := by
  refine zK_of qX7_glance (by decide +kernel) rfl ?_
  repeat' (first
    | refine zv_step (bX7_glance 3) rfl rfl trivial ?_
    | refine zv_getf (bX7_glance 3) rfl ((h _ (by decide)).trans rfl) rfl ?_
    | refine zv_zald (bX7_glance 3) rfl ((h _ (by decide)).trans rfl) (by unfold vp_in; decide) ?_
    | refine zv_iald (bX7_glance 3) rfl ((h _ (by decide)).trans rfl) (by unfold vp_in; decide) ?_
    | (dsimp only; split)
    | (refine zv_V1 (bX7_glance 3) rfl rfl rfl ((h _ (by decide)).trans rfl) rfl rfl rfl ⟨rfl, rfl, rfl⟩ ⟨by decide, by decide⟩ ⟨Nat.zero_le _, Nat.zero_le _⟩ (mNode _ h) ?_; rintro _ _ ⟨rfl, rfl⟩)
    | (refine zv_S1 (bX7_glance 3) rfl rfl rfl rfl ⟨rfl, rfl, rfl⟩ ⟨by decide, by decide⟩ ⟨Nat.zero_le _, Nat.zero_le _⟩ (hX7_isStyle _ _) ?_; rintro _ _ ⟨rfl, ⟨hh, rfl⟩ | ⟨hh, rfl⟩⟩)
    | (refine zv_S1 (bX7_glance 3) rfl rfl rfl rfl ⟨rfl, rfl, rfl⟩ ⟨by decide, by decide⟩ ⟨Nat.zero_le _, Nat.zero_le _⟩ (hX7_isShelf _ _) ?_; rintro _ _ ⟨rfl, ⟨hh, rfl⟩ | ⟨hh, rfl⟩⟩)
    | (refine zv_S3 (bX7_glance 3) rfl rfl rfl rfl ⟨rfl, rfl, rfl⟩ ⟨by decide, by decide⟩ ⟨Nat.zero_le _, Nat.zero_le _⟩ (hX7_in _ _ _ _) ?_; rintro _ _ ⟨rfl, ⟨hh, rfl⟩ | ⟨hh, rfl⟩⟩)
    | (refine zv_S1 (bX7_glance 3) rfl rfl rfl rfl ⟨rfl, rfl, rfl⟩ ⟨by decide, by decide⟩ ⟨Nat.zero_le _, Nat.zero_le _⟩ (hX7_isTwo _ _) ?_; rintro _ _ ⟨rfl, ⟨hh, rfl⟩ | ⟨hh, rfl⟩⟩)
    | (refine zv_S1 (bX7_glance 3) rfl rfl rfl rfl ⟨rfl, rfl, rfl⟩ ⟨by decide, by decide⟩ ⟨Nat.zero_le _, Nat.zero_le _⟩ (hX7_mayKeep _ _) ?_; rintro _ _ ⟨rfl, ⟨hh, rfl⟩ | ⟨hh, rfl⟩⟩)
    | refine zv_iret (bX7_glance 3) rfl (Or.inl rfl) (Nat.zero_le _) (Nat.zero_le _) ?_)
  all_goals first | exact ⟨_, rfl, Or.inl (⟨(by first | decide | ((try simp only [lg_cmp_lt, lg_cmp_gt, lg_cmp_ge, lg_cmp_le, lg_cmp_eq] at *); (try simp only [Int32.lt_iff_toInt_lt, Int32.le_iff_toInt_le, Int64.lt_iff_toInt_lt, Int64.le_iff_toInt_le, Int32.toInt_toInt64, lg_cmp_lt, lg_cmp_gt, lg_cmp_ge, lg_cmp_le, i8c, i16c, i32c, i64c, l0c, l1c, z32, i8e, i32e, Decidable.not_not, Int.reduceNeg, Int.reduceLE, Int.reduceLT, and_self, Int32.toInt_zero, Int.not_lt, Int.not_le, m1c] at *); omega)), rfl⟩)⟩ | exact ⟨_, rfl, Or.inr (⟨(by first | decide | ((try simp only [lg_cmp_lt, lg_cmp_gt, lg_cmp_ge, lg_cmp_le, lg_cmp_eq] at *); (try simp only [Int32.lt_iff_toInt_lt, Int32.le_iff_toInt_le, Int64.lt_iff_toInt_lt, Int64.le_iff_toInt_le, Int32.toInt_toInt64, lg_cmp_lt, lg_cmp_gt, lg_cmp_ge, lg_cmp_le, i8c, i16c, i32c, i64c, l0c, l1c, z32, i8e, i32e, Decidable.not_not, Int.reduceNeg, Int.reduceLE, Int.reduceLT, and_self, Int32.toInt_zero, Int.not_lt, Int.not_le, m1c] at *); omega)), rfl⟩)⟩ | (exfalso; (try simp only [lg_cmp_lt, lg_cmp_gt, lg_cmp_ge, lg_cmp_le, lg_cmp_eq] at *); (try simp only [Int32.lt_iff_toInt_lt, Int32.le_iff_toInt_le, Int64.lt_iff_toInt_lt, Int64.le_iff_toInt_le, Int32.toInt_toInt64, lg_cmp_lt, lg_cmp_gt, lg_cmp_ge, lg_cmp_le, i8c, i16c, i32c, i64c, l0c, l1c, z32, i8e, i32e, Decidable.not_not, Int.reduceNeg, Int.reduceLE, Int.reduceLT, and_self, Int32.toInt_zero, Int.not_lt, Int.not_le, m1c] at *); omega)

set_option maxHeartbeats 4000000 in
set_option maxRecDepth 20000 in
theorem mFun  {w : zW} (h : ∀ j, 76 ≤ j → w[j]? = w0[j]?) : zK 0 zX7_functions [.ref 76] w (fun r w' => w' = w ∧ r = some (.int 0)) := by
  refine zK_of qX7_functions (by decide +kernel) rfl ?_
  repeat' (first
    | refine zv_step (bX7_functions 0) rfl rfl trivial ?_
    | refine zv_getf (bX7_functions 0) rfl ((h _ (by decide)).trans rfl) rfl ?_
    | refine zv_zald (bX7_functions 0) rfl ((h _ (by decide)).trans rfl) (by unfold vp_in; decide) ?_
    | refine zv_iald (bX7_functions 0) rfl ((h _ (by decide)).trans rfl) (by unfold vp_in; decide) ?_
    | (dsimp only; split)
    | refine zv_iret (bX7_functions 0) rfl (Or.inl rfl) (Nat.zero_le _) (Nat.zero_le _) ?_)
  all_goals first | exact ⟨rfl, rfl⟩ | (exfalso; (try simp only [lg_cmp_lt, lg_cmp_gt, lg_cmp_ge, lg_cmp_le, lg_cmp_eq] at *); (try simp only [Int32.lt_iff_toInt_lt, Int32.le_iff_toInt_le, Int64.lt_iff_toInt_lt, Int64.le_iff_toInt_le, Int32.toInt_toInt64, lg_cmp_lt, lg_cmp_gt, lg_cmp_ge, lg_cmp_le, i8c, i16c, i32c, i64c, l0c, l1c, z32, i8e, i32e, Decidable.not_not, Int.reduceNeg, Int.reduceLE, Int.reduceLT, and_self, Int32.toInt_zero, Int.not_lt, Int.not_le, m1c] at *); omega)

set_option maxHeartbeats 4000000 in
set_option maxRecDepth 20000 in
theorem cM_count (p1 : Int32) {w : zW} (h : ∀ j, 76 ≤ j → w[j]? = w0[j]?) : zK 3 zX7_count [.ref 76, .int p1] w (fun r w' => ∃ a, r = some (.int a) ∧ R_count p1 a) := by
  refine zK_of qX7_count (by decide +kernel) rfl ?_
  repeat' (first
    | refine zv_step (bX7_count 3) rfl rfl trivial ?_
    | refine zv_getf (bX7_count 3) rfl ((h _ (by decide)).trans rfl) rfl ?_
    | refine zv_zald (bX7_count 3) rfl ((h _ (by decide)).trans rfl) (by unfold vp_in; decide) ?_
    | refine zv_iald (bX7_count 3) rfl ((h _ (by decide)).trans rfl) (by unfold vp_in; decide) ?_
    | (dsimp only; split)
    | (refine zv_V1 (bX7_count 3) rfl rfl rfl ((h _ (by decide)).trans rfl) rfl rfl rfl ⟨rfl, rfl, rfl⟩ ⟨by decide, by decide⟩ ⟨Nat.zero_le _, Nat.zero_le _⟩ (mNode _ h) ?_; rintro _ _ ⟨rfl, rfl⟩)
    | (refine zv_S1 (bX7_count 3) rfl rfl rfl rfl ⟨rfl, rfl, rfl⟩ ⟨by decide, by decide⟩ ⟨Nat.zero_le _, Nat.zero_le _⟩ (hX7_isStyle _ _) ?_; rintro _ _ ⟨rfl, ⟨hh, rfl⟩ | ⟨hh, rfl⟩⟩)
    | (refine zv_S1 (bX7_count 3) rfl rfl rfl rfl ⟨rfl, rfl, rfl⟩ ⟨by decide, by decide⟩ ⟨Nat.zero_le _, Nat.zero_le _⟩ (hX7_isShelf _ _) ?_; rintro _ _ ⟨rfl, ⟨hh, rfl⟩ | ⟨hh, rfl⟩⟩)
    | (refine zv_S3 (bX7_count 3) rfl rfl rfl rfl ⟨rfl, rfl, rfl⟩ ⟨by decide, by decide⟩ ⟨Nat.zero_le _, Nat.zero_le _⟩ (hX7_in _ _ _ _) ?_; rintro _ _ ⟨rfl, ⟨hh, rfl⟩ | ⟨hh, rfl⟩⟩)
    | (refine zv_S1 (bX7_count 3) rfl rfl rfl rfl ⟨rfl, rfl, rfl⟩ ⟨by decide, by decide⟩ ⟨Nat.zero_le _, Nat.zero_le _⟩ (hX7_isTwo _ _) ?_; rintro _ _ ⟨rfl, ⟨hh, rfl⟩ | ⟨hh, rfl⟩⟩)
    | (refine zv_S1 (bX7_count 3) rfl rfl rfl rfl ⟨rfl, rfl, rfl⟩ ⟨by decide, by decide⟩ ⟨Nat.zero_le _, Nat.zero_le _⟩ (hX7_mayKeep _ _) ?_; rintro _ _ ⟨rfl, ⟨hh, rfl⟩ | ⟨hh, rfl⟩⟩)
    | (refine zv_V0 (bX7_count 3) rfl rfl rfl ((h _ (by decide)).trans rfl) rfl rfl rfl ⟨rfl, rfl, rfl⟩ ⟨by decide, by decide⟩ ⟨Nat.zero_le _, Nat.zero_le _⟩ (mFun h) ?_; rintro _ _ ⟨rfl, rfl⟩)
    | refine zv_iret (bX7_count 3) rfl (Or.inl rfl) (Nat.zero_le _) (Nat.zero_le _) ?_)
  all_goals first | exact ⟨_, rfl, Or.inl (⟨(by first | decide | ((try simp only [lg_cmp_lt, lg_cmp_gt, lg_cmp_ge, lg_cmp_le, lg_cmp_eq] at *); (try simp only [Int32.lt_iff_toInt_lt, Int32.le_iff_toInt_le, Int64.lt_iff_toInt_lt, Int64.le_iff_toInt_le, Int32.toInt_toInt64, lg_cmp_lt, lg_cmp_gt, lg_cmp_ge, lg_cmp_le, i8c, i16c, i32c, i64c, l0c, l1c, z32, i8e, i32e, Decidable.not_not, Int.reduceNeg, Int.reduceLE, Int.reduceLT, and_self, Int32.toInt_zero, Int.not_lt, Int.not_le, m1c] at *); omega)), rfl⟩)⟩ | exact ⟨_, rfl, Or.inr (⟨(by first | decide | ((try simp only [lg_cmp_lt, lg_cmp_gt, lg_cmp_ge, lg_cmp_le, lg_cmp_eq] at *); (try simp only [Int32.lt_iff_toInt_lt, Int32.le_iff_toInt_le, Int64.lt_iff_toInt_lt, Int64.le_iff_toInt_le, Int32.toInt_toInt64, lg_cmp_lt, lg_cmp_gt, lg_cmp_ge, lg_cmp_le, i8c, i16c, i32c, i64c, l0c, l1c, z32, i8e, i32e, Decidable.not_not, Int.reduceNeg, Int.reduceLE, Int.reduceLT, and_self, Int32.toInt_zero, Int.not_lt, Int.not_le, m1c] at *); omega)), rfl⟩)⟩ | (exfalso; (try simp only [lg_cmp_lt, lg_cmp_gt, lg_cmp_ge, lg_cmp_le, lg_cmp_eq] at *); (try simp only [Int32.lt_iff_toInt_lt, Int32.le_iff_toInt_le, Int64.lt_iff_toInt_lt, Int64.le_iff_toInt_le, Int32.toInt_toInt64, lg_cmp_lt, lg_cmp_gt, lg_cmp_ge, lg_cmp_le, i8c, i16c, i32c, i64c, l0c, l1c, z32, i8e, i32e, Decidable.not_not, Int.reduceNeg, Int.reduceLE, Int.reduceLT, and_self, Int32.toInt_zero, Int.not_lt, Int.not_le, m1c] at *); omega)

