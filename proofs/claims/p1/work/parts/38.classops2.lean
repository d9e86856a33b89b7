def R_copy (p1 p2 p3 p4 p5 : Int32) (a : Int32) : Prop := ((¬ ((0 ≤ p1.toInt ∧ p1.toInt ≤ 7) ∧ (0 ≤ p3.toInt ∧ p3.toInt ≤ 7))) ∧ a = -1) ∨ (((0 ≤ p1.toInt ∧ p1.toInt ≤ 7) ∧ (0 ≤ p3.toInt ∧ p3.toInt ≤ 7)) ∧ a = -11)
theorem F_copy {p1 p2 p3 p4 p5 : Int32} {a b : Int32} (h1 : R_copy p1 p2 p3 p4 p5 a) (h2 : R_copy p1 p2 p3 p4 p5 b) : a = b := by
  rcases h1 with ⟨c1, rfl⟩ | ⟨c1, rfl⟩ <;> rcases h2 with ⟨c2, rfl⟩ | ⟨c2, rfl⟩ <;> first | rfl | (exfalso; omega)
def R_weight (p1 : Int32) (a : Int32) : Prop := ((¬ (0 ≤ p1.toInt ∧ p1.toInt ≤ 7)) ∧ a = -1) ∨ (((0 ≤ p1.toInt ∧ p1.toInt ≤ 7)) ∧ a = -11)
theorem F_weight {p1 : Int32} {a b : Int32} (h1 : R_weight p1 a) (h2 : R_weight p1 b) : a = b := by
  rcases h1 with ⟨c1, rfl⟩ | ⟨c1, rfl⟩ <;> rcases h2 with ⟨c2, rfl⟩ | ⟨c2, rfl⟩ <;> first | rfl | (exfalso; omega)
def R_toss (p1 : Int32) (a : Int32) : Prop := ((¬ (0 ≤ p1.toInt ∧ p1.toInt ≤ 7)) ∧ a = -1) ∨ (((0 ≤ p1.toInt ∧ p1.toInt ≤ 7)) ∧ a = -11)
theorem F_toss {p1 : Int32} {a b : Int32} (h1 : R_toss p1 a) (h2 : R_toss p1 b) : a = b := by
  rcases h1 with ⟨c1, rfl⟩ | ⟨c1, rfl⟩ <;> rcases h2 with ⟨c2, rfl⟩ | ⟨c2, rfl⟩ <;> first | rfl | (exfalso; omega)
def R_keep (p1 p2 p3 : Int32) (a : Int32) : Prop := (((0 ≤ p1.toInt ∧ p1.toInt ≤ 7) ∧ (p2.toInt = 0 ∨ p2.toInt = 3)) ∧ a = 0) ∨ ((¬ ((0 ≤ p1.toInt ∧ p1.toInt ≤ 7) ∧ (p2.toInt = 0 ∨ p2.toInt = 3))) ∧ a = -1)
theorem F_keep {p1 p2 p3 : Int32} {a b : Int32} (h1 : R_keep p1 p2 p3 a) (h2 : R_keep p1 p2 p3 b) : a = b := by
  rcases h1 with ⟨c1, rfl⟩ | ⟨c1, rfl⟩ <;> rcases h2 with ⟨c2, rfl⟩ | ⟨c2, rfl⟩ <;> first | rfl | (exfalso; omega)
def R_write (p1 : Int32) (p2 : Int64) (a : Int32) : Prop := ((¬ (0 ≤ p1.toInt ∧ p1.toInt ≤ 8) ∨ p2.toInt < 0) ∧ a = -1) ∨ (((0 ≤ p1.toInt ∧ p1.toInt ≤ 8) ∧ 0 ≤ p2.toInt) ∧ a = -4)
theorem F_write {p1 : Int32} {p2 : Int64} {a b : Int32} (h1 : R_write p1 p2 a) (h2 : R_write p1 p2 b) : a = b := by
  rcases h1 with ⟨c1, rfl⟩ | ⟨c1, rfl⟩ <;> rcases h2 with ⟨c2, rfl⟩ | ⟨c2, rfl⟩ <;> first | rfl | (exfalso; omega)
def R_doubt (p1 : Int32) (p2 p3 : Int64) (a : Int32) : Prop := ((¬ (0 ≤ p1.toInt ∧ p1.toInt ≤ 8) ∨ p2.toInt < 0 ∨ p3.toInt < 0) ∧ a = -1) ∨ (((0 ≤ p1.toInt ∧ p1.toInt ≤ 8) ∧ 0 ≤ p2.toInt ∧ 0 ≤ p3.toInt) ∧ a = -4)
theorem F_doubt {p1 : Int32} {p2 p3 : Int64} {a b : Int32} (h1 : R_doubt p1 p2 p3 a) (h2 : R_doubt p1 p2 p3 b) : a = b := by
  rcases h1 with ⟨c1, rfl⟩ | ⟨c1, rfl⟩ <;> rcases h2 with ⟨c2, rfl⟩ | ⟨c2, rfl⟩ <;> first | rfl | (exfalso; omega)
set_option maxHeartbeats 4000000 in
set_option maxRecDepth 20000 in
theorem hRef (p1 : Int32) : zK 1 zX6_nodeRefusal [.ref 0, .int p1] w0 (fun r w' => w' = w0 ∧ ((¬ (0 ≤ p1.toInt ∧ p1.toInt ≤ 7) ∧ r = some (.int (-1))) ∨ ((0 ≤ p1.toInt ∧ p1.toInt ≤ 7) ∧ r = some (.int (-11))))) := by
  rcases zcase7 p1 with rfl | rfl | rfl | rfl | rfl | rfl | rfl | rfl | hc
  all_goals refine zK_of qX6_nodeRefusal (by decide +kernel) rfl ?_
  repeat' (first
    | refine zv_step (bX6_nodeRefusal 1) rfl rfl trivial ?_
    | (dsimp only; split)
    | (refine zv_S1 (bX6_nodeRefusal 1) rfl rfl rfl rfl ⟨rfl, rfl, rfl⟩ ⟨by decide, by decide⟩ ⟨Nat.zero_le _, Nat.zero_le _⟩ (hX6_isShelf _ _) ?_; rintro _ _ ⟨rfl, ⟨hh, rfl⟩ | ⟨hh, rfl⟩⟩)
    | refine zv_aald (bX6_nodeRefusal 1) rfl (Or.inl rfl) rfl (by unfold vp_in; decide) rfl ?_
    | refine zv_iret (bX6_nodeRefusal 1) rfl (Or.inl rfl) (Nat.zero_le _) (Nat.zero_le _) ?_)
  all_goals first | exact ⟨rfl, Or.inl ⟨(by first | decide | ((try simp only [lg_cmp_lt, lg_cmp_gt, lg_cmp_ge, lg_cmp_le, lg_cmp_eq] at *); (try simp only [Int32.lt_iff_toInt_lt, Int32.le_iff_toInt_le, Int64.lt_iff_toInt_lt, Int64.le_iff_toInt_le, Int32.toInt_toInt64, lg_cmp_lt, lg_cmp_gt, lg_cmp_ge, lg_cmp_le, i8c, i16c, i32c, i64c, l0c, l1c, z32, i8e, i32e, Decidable.not_not, Int.reduceNeg, Int.reduceLE, Int.reduceLT, and_self, Int32.toInt_zero, Int.not_lt, Int.not_le] at *); omega)), rfl⟩⟩ | exact ⟨rfl, Or.inr ⟨(by first | decide | ((try simp only [lg_cmp_lt, lg_cmp_gt, lg_cmp_ge, lg_cmp_le, lg_cmp_eq] at *); (try simp only [Int32.lt_iff_toInt_lt, Int32.le_iff_toInt_le, Int64.lt_iff_toInt_lt, Int64.le_iff_toInt_le, Int32.toInt_toInt64, lg_cmp_lt, lg_cmp_gt, lg_cmp_ge, lg_cmp_le, i8c, i16c, i32c, i64c, l0c, l1c, z32, i8e, i32e, Decidable.not_not, Int.reduceNeg, Int.reduceLE, Int.reduceLT, and_self, Int32.toInt_zero, Int.not_lt, Int.not_le] at *); omega)), rfl⟩⟩ | exact absurd (by decide) hh | (exfalso; (try simp only [lg_cmp_lt, lg_cmp_gt, lg_cmp_ge, lg_cmp_le, lg_cmp_eq] at *); (try simp only [Int32.lt_iff_toInt_lt, Int32.le_iff_toInt_le, Int64.lt_iff_toInt_lt, Int64.le_iff_toInt_le, Int32.toInt_toInt64, lg_cmp_lt, lg_cmp_gt, lg_cmp_ge, lg_cmp_le, i8c, i16c, i32c, i64c, l0c, l1c, z32, i8e, i32e, Decidable.not_not, Int.reduceNeg, Int.reduceLE, Int.reduceLT, and_self, Int32.toInt_zero, Int.not_lt, Int.not_le] at *); omega)

set_option maxHeartbeats 4000000 in
set_option maxRecDepth 20000 in
theorem cX_weight (p1 : Int32) : zK 3 zX6_weight [.ref 0, .int p1] w0 (fun r w' => (∃ a, r = some (.int a) ∧ R_weight p1 a) ∧ ∀ j, 76 ≤ j → w'[j]? = w0[j]?) := by
  refine zK_of qX6_weight (by decide +kernel) rfl ?_
  repeat' (first
    | refine zv_step (bX6_weight 3) rfl rfl trivial ?_
    | (dsimp only; split)
    | (refine zv_V1 (bX6_weight 3) rfl rfl rfl rfl rfl rfl rfl ⟨rfl, rfl, rfl⟩ ⟨by decide, by decide⟩ ⟨Nat.zero_le _, Nat.zero_le _⟩ (hRef _) ?_; rintro _ _ ⟨rfl, ⟨hh, rfl⟩ | ⟨hh, rfl⟩⟩)
    | refine zv_iret (bX6_weight 3) rfl (Or.inl rfl) (Nat.zero_le _) (Nat.zero_le _) ?_)
  all_goals first | exact ⟨⟨_, rfl, Or.inl (⟨(by first | decide | ((try simp only [lg_cmp_lt, lg_cmp_gt, lg_cmp_ge, lg_cmp_le, lg_cmp_eq] at *); (try simp only [Int32.lt_iff_toInt_lt, Int32.le_iff_toInt_le, Int64.lt_iff_toInt_lt, Int64.le_iff_toInt_le, Int32.toInt_toInt64, lg_cmp_lt, lg_cmp_gt, lg_cmp_ge, lg_cmp_le, i8c, i16c, i32c, i64c, l0c, l1c, z32, i8e, i32e, Decidable.not_not, Int.reduceNeg, Int.reduceLE, Int.reduceLT, and_self, Int32.toInt_zero, Int.not_lt, Int.not_le] at *); omega)), rfl⟩)⟩, fun j hj => rfl⟩ | exact ⟨⟨_, rfl, Or.inl (⟨(by first | decide | ((try simp only [lg_cmp_lt, lg_cmp_gt, lg_cmp_ge, lg_cmp_le, lg_cmp_eq] at *); (try simp only [Int32.lt_iff_toInt_lt, Int32.le_iff_toInt_le, Int64.lt_iff_toInt_lt, Int64.le_iff_toInt_le, Int32.toInt_toInt64, lg_cmp_lt, lg_cmp_gt, lg_cmp_ge, lg_cmp_le, i8c, i16c, i32c, i64c, l0c, l1c, z32, i8e, i32e, Decidable.not_not, Int.reduceNeg, Int.reduceLE, Int.reduceLT, and_self, Int32.toInt_zero, Int.not_lt, Int.not_le] at *); omega)), rfl⟩)⟩, fun j hj => by repeat rw [List.getElem?_set_ne (by omega)]⟩ | exact ⟨⟨_, rfl, Or.inr (⟨(by first | decide | ((try simp only [lg_cmp_lt, lg_cmp_gt, lg_cmp_ge, lg_cmp_le, lg_cmp_eq] at *); (try simp only [Int32.lt_iff_toInt_lt, Int32.le_iff_toInt_le, Int64.lt_iff_toInt_lt, Int64.le_iff_toInt_le, Int32.toInt_toInt64, lg_cmp_lt, lg_cmp_gt, lg_cmp_ge, lg_cmp_le, i8c, i16c, i32c, i64c, l0c, l1c, z32, i8e, i32e, Decidable.not_not, Int.reduceNeg, Int.reduceLE, Int.reduceLT, and_self, Int32.toInt_zero, Int.not_lt, Int.not_le] at *); omega)), rfl⟩)⟩, fun j hj => rfl⟩ | exact ⟨⟨_, rfl, Or.inr (⟨(by first | decide | ((try simp only [lg_cmp_lt, lg_cmp_gt, lg_cmp_ge, lg_cmp_le, lg_cmp_eq] at *); (try simp only [Int32.lt_iff_toInt_lt, Int32.le_iff_toInt_le, Int64.lt_iff_toInt_lt, Int64.le_iff_toInt_le, Int32.toInt_toInt64, lg_cmp_lt, lg_cmp_gt, lg_cmp_ge, lg_cmp_le, i8c, i16c, i32c, i64c, l0c, l1c, z32, i8e, i32e, Decidable.not_not, Int.reduceNeg, Int.reduceLE, Int.reduceLT, and_self, Int32.toInt_zero, Int.not_lt, Int.not_le] at *); omega)), rfl⟩)⟩, fun j hj => by repeat rw [List.getElem?_set_ne (by omega)]⟩ | (exfalso; (try simp only [lg_cmp_lt, lg_cmp_gt, lg_cmp_ge, lg_cmp_le, lg_cmp_eq] at *); (try simp only [Int32.lt_iff_toInt_lt, Int32.le_iff_toInt_le, Int64.lt_iff_toInt_lt, Int64.le_iff_toInt_le, Int32.toInt_toInt64, lg_cmp_lt, lg_cmp_gt, lg_cmp_ge, lg_cmp_le, i8c, i16c, i32c, i64c, l0c, l1c, z32, i8e, i32e, Decidable.not_not, Int.reduceNeg, Int.reduceLE, Int.reduceLT, and_self, Int32.toInt_zero, Int.not_lt, Int.not_le] at *); omega)

set_option maxHeartbeats 4000000 in
set_option maxRecDepth 20000 in
theorem cX_toss (p1 : Int32) : zK 3 zX6_toss [.ref 0, .int p1] w0 (fun r w' => (∃ a, r = some (.int a) ∧ R_toss p1 a) ∧ ∀ j, 76 ≤ j → w'[j]? = w0[j]?) := by
  refine zK_of qX6_toss (by decide +kernel) rfl ?_
  repeat' (first
    | refine zv_step (bX6_toss 3) rfl rfl trivial ?_
    | (dsimp only; split)
    | (refine zv_V1 (bX6_toss 3) rfl rfl rfl rfl rfl rfl rfl ⟨rfl, rfl, rfl⟩ ⟨by decide, by decide⟩ ⟨Nat.zero_le _, Nat.zero_le _⟩ (hRef _) ?_; rintro _ _ ⟨rfl, ⟨hh, rfl⟩ | ⟨hh, rfl⟩⟩)
    | refine zv_iret (bX6_toss 3) rfl (Or.inl rfl) (Nat.zero_le _) (Nat.zero_le _) ?_)
  all_goals first | exact ⟨⟨_, rfl, Or.inl (⟨(by first | decide | ((try simp only [lg_cmp_lt, lg_cmp_gt, lg_cmp_ge, lg_cmp_le, lg_cmp_eq] at *); (try simp only [Int32.lt_iff_toInt_lt, Int32.le_iff_toInt_le, Int64.lt_iff_toInt_lt, Int64.le_iff_toInt_le, Int32.toInt_toInt64, lg_cmp_lt, lg_cmp_gt, lg_cmp_ge, lg_cmp_le, i8c, i16c, i32c, i64c, l0c, l1c, z32, i8e, i32e, Decidable.not_not, Int.reduceNeg, Int.reduceLE, Int.reduceLT, and_self, Int32.toInt_zero, Int.not_lt, Int.not_le] at *); omega)), rfl⟩)⟩, fun j hj => rfl⟩ | exact ⟨⟨_, rfl, Or.inl (⟨(by first | decide | ((try simp only [lg_cmp_lt, lg_cmp_gt, lg_cmp_ge, lg_cmp_le, lg_cmp_eq] at *); (try simp only [Int32.lt_iff_toInt_lt, Int32.le_iff_toInt_le, Int64.lt_iff_toInt_lt, Int64.le_iff_toInt_le, Int32.toInt_toInt64, lg_cmp_lt, lg_cmp_gt, lg_cmp_ge, lg_cmp_le, i8c, i16c, i32c, i64c, l0c, l1c, z32, i8e, i32e, Decidable.not_not, Int.reduceNeg, Int.reduceLE, Int.reduceLT, and_self, Int32.toInt_zero, Int.not_lt, Int.not_le] at *); omega)), rfl⟩)⟩, fun j hj => by repeat rw [List.getElem?_set_ne (by omega)]⟩ | exact ⟨⟨_, rfl, Or.inr (⟨(by first | decide | ((try simp only [lg_cmp_lt, lg_cmp_gt, lg_cmp_ge, lg_cmp_le, lg_cmp_eq] at *); (try simp only [Int32.lt_iff_toInt_lt, Int32.le_iff_toInt_le, Int64.lt_iff_toInt_lt, Int64.le_iff_toInt_le, Int32.toInt_toInt64, lg_cmp_lt, lg_cmp_gt, lg_cmp_ge, lg_cmp_le, i8c, i16c, i32c, i64c, l0c, l1c, z32, i8e, i32e, Decidable.not_not, Int.reduceNeg, Int.reduceLE, Int.reduceLT, and_self, Int32.toInt_zero, Int.not_lt, Int.not_le] at *); omega)), rfl⟩)⟩, fun j hj => rfl⟩ | exact ⟨⟨_, rfl, Or.inr (⟨(by first | decide | ((try simp only [lg_cmp_lt, lg_cmp_gt, lg_cmp_ge, lg_cmp_le, lg_cmp_eq] at *); (try simp only [Int32.lt_iff_toInt_lt, Int32.le_iff_toInt_le, Int64.lt_iff_toInt_lt, Int64.le_iff_toInt_le, Int32.toInt_toInt64, lg_cmp_lt, lg_cmp_gt, lg_cmp_ge, lg_cmp_le, i8c, i16c, i32c, i64c, l0c, l1c, z32, i8e, i32e, Decidable.not_not, Int.reduceNeg, Int.reduceLE, Int.reduceLT, and_self, Int32.toInt_zero, Int.not_lt, Int.not_le] at *); omega)), rfl⟩)⟩, fun j hj => by repeat rw [List.getElem?_set_ne (by omega)]⟩ | (exfalso; (try simp only [lg_cmp_lt, lg_cmp_gt, lg_cmp_ge, lg_cmp_le, lg_cmp_eq] at *); (try simp only [Int32.lt_iff_toInt_lt, Int32.le_iff_toInt_le, Int64.lt_iff_toInt_lt, Int64.le_iff_toInt_le, Int32.toInt_toInt64, lg_cmp_lt, lg_cmp_gt, lg_cmp_ge, lg_cmp_le, i8c, i16c, i32c, i64c, l0c, l1c, z32, i8e, i32e, Decidable.not_not, Int.reduceNeg, Int.reduceLE, Int.reduceLT, and_self, Int32.toInt_zero, Int.not_lt, Int.not_le] at *); omega)

set_option maxHeartbeats 4000000 in
set_option maxRecDepth 20000 in
theorem hDrop {w : zW} (s : Nat) {fs : List Value} (hs : w[s]? = some (zO 2 fs)) (hl : fs.length = 6) : zK 0 zX3_drop [.ref s] w (fun r w' => r = none ∧ ∀ j, j ≠ s → w'[j]? = w[j]?) := by
  refine zK_of qX3_drop (by decide +kernel) rfl ?_
  repeat' (first
    | refine zv_step (bX3_drop 0) rfl rfl trivial ?_
    | (dsimp only; split)
    | refine zv_putf (bX3_drop 0) rfl hs (by rw [hl]; rfl) rfl ?_
    | refine zv_ret (bX3_drop 0) rfl rfl (Nat.zero_le _) (Nat.zero_le _) ?_)
  all_goals first | exact ⟨rfl, fun j hj => List.getElem?_set_ne (Ne.symm hj)⟩ | (exfalso; (try simp only [lg_cmp_lt, lg_cmp_gt, lg_cmp_ge, lg_cmp_le, lg_cmp_eq] at *); (try simp only [Int32.lt_iff_toInt_lt, Int32.le_iff_toInt_le, Int64.lt_iff_toInt_lt, Int64.le_iff_toInt_le, Int32.toInt_toInt64, lg_cmp_lt, lg_cmp_gt, lg_cmp_ge, lg_cmp_le, i8c, i16c, i32c, i64c, l0c, l1c, z32, i8e, i32e, Decidable.not_not, Int.reduceNeg, Int.reduceLE, Int.reduceLT, and_self, Int32.toInt_zero, Int.not_lt, Int.not_le] at *); omega)

