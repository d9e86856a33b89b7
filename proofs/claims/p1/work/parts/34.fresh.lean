/-- the world behind the two constructors: the class 0 .. 75, the reference 76 .. 98, the law's long row 99 -/
def w0 : zW := [zO 5 [.ref 1, .ref 14, .ref 27, .ref 29, .ref 31, .ref 55, .ref 58, .ref 75, .int 0], zO 1 [.ref 2, .ref 3, .ref 4, .ref 5, .ref 6, .ref 7, .ref 8, .ref 9, .ref 10, .ref 11, .ref 12, .ref 13, .int 0], zI 0 120 (fun _ => 0), zI 0 120 (fun _ => 0), zI 0 120 (fun _ => 0), zI 0 120 (fun _ => 0), zI 0 120 (fun _ => 0), zI 0 120 (fun _ => 0), zI 0 120 (fun _ => 0), zI 0 120 (fun _ => 0), zI 0 120 (fun _ => 0), zI 0 120 (fun _ => 0), zI 0 120 (fun _ => 0), zI 0 120 (fun _ => 0), zO 1 [.ref 15, .ref 16, .ref 17, .ref 18, .ref 19, .ref 20, .ref 21, .ref 22, .ref 23, .ref 24, .ref 25, .ref 26, .int 0], zI 0 120 (fun _ => 0), zI 0 120 (fun _ => 0), zI 0 120 (fun _ => 0), zI 0 120 (fun _ => 0), zI 0 120 (fun _ => 0), zI 0 120 (fun _ => 0), zI 0 120 (fun _ => 0), zI 0 120 (fun _ => 0), zI 0 120 (fun _ => 0), zI 0 120 (fun _ => 0), zI 0 120 (fun _ => 0), zI 0 120 (fun _ => 0), zO 3 [.ref 28, .int 0, .int 0, .int 0], zI 0 80 (fun _ => 0), zO 3 [.ref 30, .int 0, .int 0, .int 0], zI 0 80 (fun _ => 0), zO 0 [.ref 32, .int 0, .ref 33, .int 0, .int 0, .int 0], zI 0 20 (fun _ => 0), zR 4 [some 34, some 35, some 36, some 37, some 38, some 39, some 40, some 41, some 42, some 43, some 44, some 45, some 46, some 47, some 48, some 49, some 50, some 51, some 52, some 53, some 54], zJ 21 (fun _ => 0), zJ 21 (fun _ => 0), zJ 21 (fun _ => 0), zJ 21 (fun _ => 0), zJ 21 (fun _ => 0), zJ 21 (fun _ => 0), zJ 21 (fun _ => 0), zJ 21 (fun _ => 0), zJ 21 (fun _ => 0), zJ 21 (fun _ => 0), zJ 21 (fun _ => 0), zJ 21 (fun _ => 0), zJ 21 (fun _ => 0), zJ 21 (fun _ => 0), zJ 21 (fun _ => 0), zJ 21 (fun _ => 0), zJ 21 (fun _ => 0), zJ 21 (fun _ => 0), zJ 21 (fun _ => 0), zJ 21 (fun _ => 0), zJ 21 (fun _ => 0), zO 4 [.ref 56, .ref 57, .int 0, .int 0], zI 0 40 (fun _ => 0), zI 0 40 (fun _ => 0), zR 3 [some 59, some 61, some 63, some 65, some 67, some 69, some 71, some 73], zO 2 [.int 0, .int (-1), .int 0, .int 0, .ref 60, .int 0], zI 0 60 (fun _ => 0), zO 2 [.int 0, .int (-1), .int 0, .int 0, .ref 62, .int 0], zI 0 60 (fun _ => 0), zO 2 [.int 0, .int (-1), .int 0, .int 0, .ref 64, .int 0], zI 0 60 (fun _ => 0), zO 2 [.int 0, .int (-1), .int 0, .int 0, .ref 66, .int 0], zI 0 60 (fun _ => 0), zO 2 [.int 0, .int (-1), .int 0, .int 0, .ref 68, .int 0], zI 0 60 (fun _ => 0), zO 2 [.int 0, .int (-1), .int 0, .int 0, .ref 70, .int 0], zI 0 60 (fun _ => 0), zO 2 [.int 0, .int (-1), .int 0, .int 0, .ref 72, .int 0], zI 0 60 (fun _ => 0), zO 2 [.int 0, .int (-1), .int 0, .int 0, .ref 74, .int 0], zI 0 60 (fun _ => 0), zI 0 8 (upd (fun _ => 0) 0 764), zO 6 [.int 0, .ref 77, .ref 78, .ref 79, .ref 80, .ref 81, .ref 82, .ref 83, .ref 84, .ref 85, .int 0, .ref 86, .ref 87, .ref 88, .ref 89, .ref 90, .int 0, .ref 91, .int 0, .int (-1), .int 0, .int 0, .ref 92, .int 0, .ref 93, .ref 94, .ref 95, .ref 96, .int 0, .int 0, .int 0, .ref 97, .ref 98, .int 0, .int 0], zI 0 450 (fun _ => 0), zI 0 450 (fun _ => 0), zI 0 450 (fun _ => 0), zI 0 450 (fun _ => 0), zI 0 450 (fun _ => 0), zI 0 450 (fun _ => 0), zI 1 10 (fun _ => 0), zI 1 90 (upd (upd (upd (upd (upd (upd (upd (upd ((fun _ => 0)) 2 1) 3 1) 4 1) 5 1) 6 1) 7 1) 8 0) 9 1), zI 0 20 (fun _ => 0), zI 0 8 (fun _ => 0), zI 0 8 (fun _ => 0), zI 0 8 (fun _ => 0), zI 0 8 (fun _ => 0), zI 0 480 (fun _ => 0), zI 0 256 (fun _ => 0), zI 0 256 (fun _ => 0), zI 0 5600 (fun _ => 0), zI 0 280 (fun _ => 0), zJ 8820 (fun _ => 0), zJ 441 (fun _ => 0), zI 0 41 (fun _ => 0), zI 0 41 (fun _ => 0), zJ 1 (fun _ => 0)]
theorem i8c (n : Int) (h : -128 ≤ n ∧ n < 128) : ((Int8.ofInt n).toInt32).toInt = n := by
  rw [Int8.toInt_toInt32, Int8.toInt_ofInt, show (Int8.size : Nat) = 256 from rfl]
  exact Int.bmod_eq_of_le (by omega) (by omega)
theorem i16c (n : Int) (h : -32768 ≤ n ∧ n < 32768) : ((Int16.ofInt n).toInt32).toInt = n := by
  rw [Int16.toInt_toInt32, Int16.toInt_ofInt, show (Int16.size : Nat) = 65536 from rfl]
  exact Int.bmod_eq_of_le (by omega) (by omega)
theorem i32c (n : Int) (h : -2147483648 ≤ n ∧ n < 2147483648) : (Int32.ofInt n).toInt = n := by
  rw [Int32.toInt_ofInt, show (Int32.size : Nat) = 4294967296 from rfl]
  exact Int.bmod_eq_of_le (by omega) (by omega)
theorem i64c (n : Int) (h : -9223372036854775808 ≤ n ∧ n < 9223372036854775808) : (Int64.ofInt n).toInt = n := by
  rw [Int64.toInt_ofInt, show (Int64.size : Nat) = 18446744073709551616 from rfl]
  exact Int.bmod_eq_of_le (by omega) (by omega)
theorem hX6_isShelf (w : zW) (x : Int32) : zK 0 zX6_isShelf [.int x] w (fun r w' => w' = w ∧ r = some (.int (if 0 ≤ x.toInt ∧ x.toInt < 8 then 1 else 0))) := by
  refine zK_of qX6_isShelf (by decide +kernel) rfl ?_
  repeat' (first
    | refine zv_step (bX6_isShelf 0) rfl rfl trivial ?_
    | (dsimp only; split)
    | refine zv_iret (bX6_isShelf 0) rfl (Or.inr ⟨rfl, Or.inl rfl⟩) (Nat.zero_le _) (Nat.zero_le _) ⟨rfl, ?_⟩
    | refine zv_iret (bX6_isShelf 0) rfl (Or.inr ⟨rfl, Or.inr rfl⟩) (Nat.zero_le _) (Nat.zero_le _) ⟨rfl, ?_⟩)
  all_goals simp only [Int32.lt_iff_toInt_lt, Int32.le_iff_toInt_le, i8c, i16c, i32c, Int.reduceNeg, Int.reduceLE, Int.reduceLT, and_self, Int32.toInt_zero, Int.not_lt, Int.not_le] at *
  all_goals first | exact congrArg (fun v => some (Value.int v)) (if_pos (by omega)).symm | exact congrArg (fun v => some (Value.int v)) (if_neg (by omega)).symm
theorem hX6_isStyle (w : zW) (x : Int32) : zK 0 zX6_isStyle [.int x] w (fun r w' => w' = w ∧ r = some (.int (if 0 ≤ x.toInt ∧ x.toInt < 8 then 1 else 0))) := by
  refine zK_of qX6_isStyle (by decide +kernel) rfl ?_
  repeat' (first
    | refine zv_step (bX6_isStyle 0) rfl rfl trivial ?_
    | (dsimp only; split)
    | refine zv_iret (bX6_isStyle 0) rfl (Or.inr ⟨rfl, Or.inl rfl⟩) (Nat.zero_le _) (Nat.zero_le _) ⟨rfl, ?_⟩
    | refine zv_iret (bX6_isStyle 0) rfl (Or.inr ⟨rfl, Or.inr rfl⟩) (Nat.zero_le _) (Nat.zero_le _) ⟨rfl, ?_⟩)
  all_goals simp only [Int32.lt_iff_toInt_lt, Int32.le_iff_toInt_le, i8c, i16c, i32c, Int.reduceNeg, Int.reduceLE, Int.reduceLT, and_self, Int32.toInt_zero, Int.not_lt, Int.not_le] at *
  all_goals first | exact congrArg (fun v => some (Value.int v)) (if_pos (by omega)).symm | exact congrArg (fun v => some (Value.int v)) (if_neg (by omega)).symm
theorem hX6_isLetter (w : zW) (x : Int32) : zK 0 zX6_isLetter [.int x] w (fun r w' => w' = w ∧ r = some (.int (if 0 ≤ x.toInt ∧ x.toInt < 10 then 1 else 0))) := by
  refine zK_of qX6_isLetter (by decide +kernel) rfl ?_
  repeat' (first
    | refine zv_step (bX6_isLetter 0) rfl rfl trivial ?_
    | (dsimp only; split)
    | refine zv_iret (bX6_isLetter 0) rfl (Or.inr ⟨rfl, Or.inl rfl⟩) (Nat.zero_le _) (Nat.zero_le _) ⟨rfl, ?_⟩
    | refine zv_iret (bX6_isLetter 0) rfl (Or.inr ⟨rfl, Or.inr rfl⟩) (Nat.zero_le _) (Nat.zero_le _) ⟨rfl, ?_⟩)
  all_goals simp only [Int32.lt_iff_toInt_lt, Int32.le_iff_toInt_le, i8c, i16c, i32c, Int.reduceNeg, Int.reduceLE, Int.reduceLT, and_self, Int32.toInt_zero, Int.not_lt, Int.not_le] at *
  all_goals first | exact congrArg (fun v => some (Value.int v)) (if_pos (by omega)).symm | exact congrArg (fun v => some (Value.int v)) (if_neg (by omega)).symm
theorem hX1_isPair (w : zW) (x : Int32) : zK 0 zX1_isPair [.int x] w (fun r w' => w' = w ∧ r = some (.int (if 2 ≤ x.toInt ∧ x.toInt ≤ 6 then 1 else 0))) := by
  refine zK_of qX1_isPair (by decide +kernel) rfl ?_
  repeat' (first
    | refine zv_step (bX1_isPair 0) rfl rfl trivial ?_
    | (dsimp only; split)
    | refine zv_iret (bX1_isPair 0) rfl (Or.inr ⟨rfl, Or.inl rfl⟩) (Nat.zero_le _) (Nat.zero_le _) ⟨rfl, ?_⟩
    | refine zv_iret (bX1_isPair 0) rfl (Or.inr ⟨rfl, Or.inr rfl⟩) (Nat.zero_le _) (Nat.zero_le _) ⟨rfl, ?_⟩)
  all_goals simp only [Int32.lt_iff_toInt_lt, Int32.le_iff_toInt_le, i8c, i16c, i32c, Int.reduceNeg, Int.reduceLE, Int.reduceLT, and_self, Int32.toInt_zero, Int.not_lt, Int.not_le] at *
  all_goals first | exact congrArg (fun v => some (Value.int v)) (if_pos (by omega)).symm | exact congrArg (fun v => some (Value.int v)) (if_neg (by omega)).symm
theorem hX7_isTwo (w : zW) (x : Int32) : zK 0 zX7_isTwo [.int x] w (fun r w' => w' = w ∧ r = some (.int (if 2 ≤ x.toInt ∧ x.toInt ≤ 6 then 1 else 0))) := by
  refine zK_of qX7_isTwo (by decide +kernel) rfl ?_
  repeat' (first
    | refine zv_step (bX7_isTwo 0) rfl rfl trivial ?_
    | (dsimp only; split)
    | refine zv_iret (bX7_isTwo 0) rfl (Or.inr ⟨rfl, Or.inl rfl⟩) (Nat.zero_le _) (Nat.zero_le _) ⟨rfl, ?_⟩
    | refine zv_iret (bX7_isTwo 0) rfl (Or.inr ⟨rfl, Or.inr rfl⟩) (Nat.zero_le _) (Nat.zero_le _) ⟨rfl, ?_⟩)
  all_goals simp only [Int32.lt_iff_toInt_lt, Int32.le_iff_toInt_le, i8c, i16c, i32c, Int.reduceNeg, Int.reduceLE, Int.reduceLT, and_self, Int32.toInt_zero, Int.not_lt, Int.not_le] at *
  all_goals first | exact congrArg (fun v => some (Value.int v)) (if_pos (by omega)).symm | exact congrArg (fun v => some (Value.int v)) (if_neg (by omega)).symm
