noncomputable def pkW (u kk sp : Int32) (P : Nat → Nat → Int32) (k x first : Int32) : Int32 := if 0 ≤ x.toInt ∧ x.toInt < u.toInt then (if sp = 0 then hbW kk (P 2 (nC x)) else dbW k (P 2 (nC x)) first) else Int32.ofInt 0
/-- the words of a NODE without its own begin and end, by the words T of its PARTS -/
def coW (P : Nat → Nat → Int32) (pk : Int32 → Int32 → Int32 → Int32) (T : Int32 → Int32 → List Int32) (n : Nat) : List Int32 :=
  if P 2 n = nI 0 then [P 3 n] else if P 2 n = nI 1 then dgW (P 3 n) else if P 2 n = nI 7 then c8 25 :: T (P 4 n) (pk (nI 7) (P 4 n) (Int32.ofInt 1)) else if P 2 n = nI 8 then c8 26 :: (T (P 4 n) (pk (nI 8) (P 4 n) (Int32.ofInt 1)) ++ [c8 27]) else if P 2 n = nI 9 then P 3 n :: c8 28 :: T (P 4 n) (pk (nI 9) (P 4 n) (Int32.ofInt 1))
  else T (P 4 n) (pk (P 2 n) (P 4 n) (Int32.ofInt 1)) ++ ((c8 18 + P 2 n) :: T (P 5 n) (pk (P 2 n) (P 5 n) (Int32.ofInt 0)))
noncomputable def tlW (u kk sp : Int32) (P : Nat → Nat → Int32) : Nat → Int32 → Int32 → List Int32
  | 0, n, _ => if 0 ≤ n.toInt ∧ n.toInt < u.toInt then [Int32.ofInt 0] else []
  | f + 1, n, kept => if 0 ≤ n.toInt ∧ n.toInt < u.toInt then (if kept = 0 then coW P (pkW u kk sp P) (tlW u kk sp P f) (nC n) else c8 29 :: (coW P (pkW u kk sp P) (tlW u kk sp P f) (nC n) ++ [c8 30])) else []
theorem tlW_0 (u kk sp : Int32) (P : Nat → Nat → Int32) (n kept : Int32) : tlW u kk sp P 0 n kept = (if 0 ≤ n.toInt ∧ n.toInt < u.toInt then [Int32.ofInt 0] else []) := rfl
theorem tlW_s (u kk sp : Int32) (P : Nat → Nat → Int32) (f : Nat) (n kept : Int32) : tlW u kk sp P (f + 1) n kept = (if 0 ≤ n.toInt ∧ n.toInt < u.toInt then (if kept = 0 then coW P (pkW u kk sp P) (tlW u kk sp P f) (nC n) else c8 29 :: (coW P (pkW u kk sp P) (tlW u kk sp P f) (nC n) ++ [c8 30])) else []) := rfl
theorem hbW_01 (x i : Int32) : hbW x i = 0 ∨ hbW x i = 1 := by
  unfold hbW
  split
  · exact Or.inl rfl
  · exact Or.inr rfl
theorem dbW_01 (k p f : Int32) : dbW k p f = 0 ∨ dbW k p f = 1 := by
  unfold dbW
  split <;> split <;> first | exact Or.inl rfl | exact Or.inr rfl
theorem pkW_01 (u kk sp : Int32) (P : Nat → Nat → Int32) (k x f : Int32) : pkW u kk sp P k x f = 0 ∨ pkW u kk sp P k x f = 1 := by
  unfold pkW
  split
  · split
    · exact hbW_01 _ _
    · exact dbW_01 _ _ _
  · exact Or.inl rfl
set_option maxHeartbeats 1000000 in
set_option maxRecDepth 20000 in
theorem pHasBitW (w : zW) (x i : Int32) : zK 0 zX1_hasBit [.int x, .int i] w (fun r w' => w' = w ∧ r = some (.int (hbW x i))) := by
  refine zK_of qX1_hasBit (by decide +kernel) rfl ?_
  iterate 6 (refine zv_step (bX1_hasBit 0) rfl rfl trivial ?_)
  refine zv_ifb (fun hc => ?_) (fun hc => ?_)
  · iterate 1 (refine zv_step (bX1_hasBit 0) rfl rfl trivial ?_)
    exact zv_iret (bX1_hasBit 0) rfl (Or.inr ⟨rfl, Or.inl rfl⟩) (Nat.zero_le _) (Nat.zero_le _) ⟨rfl, by unfold hbW; rw [if_pos hc]⟩
  · iterate 2 (refine zv_step (bX1_hasBit 0) rfl rfl trivial ?_)
    exact zv_iret (bX1_hasBit 0) rfl (Or.inr ⟨rfl, Or.inr rfl⟩) (Nat.zero_le _) (Nat.zero_le _) ⟨rfl, by unfold hbW; rw [if_neg hc]⟩
