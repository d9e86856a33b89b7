theorem zset_self {w : zW} {k : Nat} {c c' : zC} (h : w[k]? = some c) : (w.set k c')[k]? = some c' := List.getElem?_set_self (List.getElem?_eq_some_iff.mp h).1
set_option maxHeartbeats 4000000 in
set_option maxRecDepth 20000 in
theorem hHoldRow {w : zW} (s q : Nat) (t : Int32) {fs : List Value} (hs : w[s]? = some (zO 2 fs)) (hl : fs.length = 6) : zK 0 zX3_holdRow [.ref s, .int t, .ref q, .int 0] w (fun r w' => r = none ∧ ∀ j, j ≠ s → w'[j]? = w[j]?) := by
  refine zK_of qX3_holdRow (by decide +kernel) rfl ?_
  repeat' (first
    | refine zv_step (bX3_holdRow 0) rfl rfl trivial ?_
    | (dsimp only; split)
    | refine zv_putf (bX3_holdRow 0) rfl hs (by rw [hl]; rfl) rfl ?_
    | refine zv_putf (bX3_holdRow 0) rfl (zset_self hs) (by rw [List.length_set, hl]; rfl) rfl ?_
    | refine zv_ret (bX3_holdRow 0) rfl rfl (Nat.zero_le _) (Nat.zero_le _) ?_)
  all_goals first | exact ⟨rfl, fun j hj => by repeat rw [List.getElem?_set_ne (Ne.symm hj)]⟩ | (exfalso; (try simp only [lg_cmp_lt, lg_cmp_gt, lg_cmp_ge, lg_cmp_le, lg_cmp_eq] at *); (try simp only [Int32.lt_iff_toInt_lt, Int32.le_iff_toInt_le, Int64.lt_iff_toInt_lt, Int64.le_iff_toInt_le, Int32.toInt_toInt64, lg_cmp_lt, lg_cmp_gt, lg_cmp_ge, lg_cmp_le, i8c, i16c, i32c, i64c, l0c, l1c, z32, i8e, i32e, Decidable.not_not, Int.reduceNeg, Int.reduceLE, Int.reduceLT, and_self, Int32.toInt_zero, Int.not_lt, Int.not_le] at *); omega) | (rename_i hz; exact absurd (by decide) hz)

set_option maxHeartbeats 4000000 in
set_option maxRecDepth 20000 in
theorem hKeepNode (s : Nat) (t k : Int32) : zK 1 zX6_keepNode [.ref 0, .ref s, .int t, .int k] w0 (fun r w' => w' = w0 ∧ r = some (.int (-1))) := by
  refine zK_of qX6_keepNode (by decide +kernel) rfl ?_
  repeat' (first
    | refine zv_step (bX6_keepNode 1) rfl rfl trivial ?_
    | (dsimp only; split)
    | (refine zv_V1 (bX6_keepNode 1) rfl rfl rfl rfl rfl rfl rfl ⟨rfl, rfl, rfl⟩ ⟨by decide, by decide⟩ ⟨Nat.zero_le _, Nat.zero_le _⟩ (hHas _) ?_; rintro _ _ ⟨rfl, rfl⟩)
    | refine zv_iret (bX6_keepNode 1) rfl (Or.inl rfl) (Nat.zero_le _) (Nat.zero_le _) ?_)
  all_goals first | exact ⟨rfl, rfl⟩ | (exfalso; (try simp only [lg_cmp_lt, lg_cmp_gt, lg_cmp_ge, lg_cmp_le, lg_cmp_eq] at *); (try simp only [Int32.lt_iff_toInt_lt, Int32.le_iff_toInt_le, Int64.lt_iff_toInt_lt, Int64.le_iff_toInt_le, Int32.toInt_toInt64, lg_cmp_lt, lg_cmp_gt, lg_cmp_ge, lg_cmp_le, i8c, i16c, i32c, i64c, l0c, l1c, z32, i8e, i32e, Decidable.not_not, Int.reduceNeg, Int.reduceLE, Int.reduceLT, and_self, Int32.toInt_zero, Int.not_lt, Int.not_le] at *); omega) | (rename_i hz; exact absurd (by decide) hz)

