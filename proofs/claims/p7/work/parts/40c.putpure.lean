/-- what addPart writes -/
def adA (b : Nat) (P : Nat → Nat → Int32) (n x : Nat) : Nat → Nat → Int32 := updA (updA (updA (updA (updA (updA P (b + 5) (upd (P (b + 5)) n (P (b + 5) n + P (b + 5) x))) (b + 6) (upd (P (b + 6)) n (if P (b + 6) n < Int32.ofInt 1 + P (b + 6) x then Int32.ofInt 1 + P (b + 6) x else P (b + 6) n))) (b + 7) (upd (P (b + 7)) n (P (b + 7) n + P (b + 7) x))) (b + 8) (upd (P (b + 8)) n (P (b + 8) n + P (b + 8) x))) (b + 9) (upd (P (b + 9)) n (P (b + 9) n ||| P (b + 9) x))) (b + 10) (upd (P (b + 10)) n (P (b + 10) n ||| P (b + 10) x))
/-- .. where there is such a PART -/
noncomputable def adI (b : Nat) (u : Int32) (P : Nat → Nat → Int32) (n : Nat) (x : Int32) : Nat → Nat → Int32 := if 0 ≤ x.toInt ∧ x.toInt < u.toInt then adA b P n (nC x) else P
def owW (k v : Int32) : Int32 := if k = Int32.ofInt 1 then (if v < c8 10 then Int32.ofInt 1 else if v < c8 100 then Int32.ofInt 2 else if v < (Int16.ofInt 1000).toInt32 then Int32.ofInt 3 else Int32.ofInt 4) else if k = c8 8 ∨ k = c8 9 then Int32.ofInt 2 else Int32.ofInt 1
def hbW (x i : Int32) : Int32 := if (x >>> (i &&& 31)) &&& Int32.ofInt 1 = 0 then Int32.ofInt 0 else Int32.ofInt 1
/-- what put writes ahead of its PARTS -/
def putV (b : Nat) (P : Nat → Nat → Int32) (n : Nat) (k v x y ow ch le ca : Int32) : Nat → Nat → Int32 := updA (updA (updA (updA (updA (updA (updA (updA (updA (updA P (b + 1) (upd (P (b + 1)) n k)) (b + 2) (upd (P (b + 2)) n v)) (b + 3) (upd (P (b + 3)) n x)) (b + 4) (upd (P (b + 4)) n y)) (b + 5) (upd (P (b + 5)) n (Int32.ofInt 1))) (b + 6) (upd (P (b + 6)) n (Int32.ofInt 1))) (b + 7) (upd (P (b + 7)) n ow)) (b + 8) (upd (P (b + 8)) n ch)) (b + 9) (upd (P (b + 9)) n le)) (b + 10) (upd (P (b + 10)) n ca)
set_option maxHeartbeats 1000000 in
set_option maxRecDepth 20000 in
theorem pOwn (w : zW) (x v : Int32) : zK 0 zX2_ownWords [.int x, .int v] w (fun r w' => w' = w ∧ r = some (.int (owW x v))) := by
  refine zK_of qX2_ownWords (by decide +kernel) rfl ?_
  iterate 3 (refine zv_step (bX2_ownWords 0) rfl rfl trivial ?_)
  refine zv_ifb (fun hc => ?_) (fun hc => ?_)
  · iterate 3 (refine zv_step (bX2_ownWords 0) rfl rfl trivial ?_)
    refine zv_ifb (fun hd => ?_) (fun hd => ?_)
    · iterate 2 (refine zv_step (bX2_ownWords 0) rfl rfl trivial ?_)
      exact zv_iret (bX2_ownWords 0) rfl (Or.inl rfl) (Nat.zero_le _) (Nat.zero_le _) ⟨rfl, by unfold owW; rw [if_neg hc, if_pos (Or.inl hd)]⟩
    · iterate 3 (refine zv_step (bX2_ownWords 0) rfl rfl trivial ?_)
      refine zv_ifb (fun he => ?_) (fun he => ?_)
      · iterate 1 (refine zv_step (bX2_ownWords 0) rfl rfl trivial ?_)
        exact zv_iret (bX2_ownWords 0) rfl (Or.inl rfl) (Nat.zero_le _) (Nat.zero_le _) ⟨rfl, by unfold owW; rw [if_neg hc, if_neg (fun q => q.elim hd he)]⟩
      · iterate 2 (refine zv_step (bX2_ownWords 0) rfl rfl trivial ?_)
        exact zv_iret (bX2_ownWords 0) rfl (Or.inl rfl) (Nat.zero_le _) (Nat.zero_le _) ⟨rfl, by unfold owW; rw [if_neg hc, if_pos (Or.inr (Decidable.not_not.mp he))]⟩
  · iterate 3 (refine zv_step (bX2_ownWords 0) rfl rfl trivial ?_)
    refine zv_ifb (fun hd => ?_) (fun hd => ?_)
    · iterate 3 (refine zv_step (bX2_ownWords 0) rfl rfl trivial ?_)
      refine zv_ifb (fun he => ?_) (fun he => ?_)
      · iterate 3 (refine zv_step (bX2_ownWords 0) rfl rfl trivial ?_)
        refine zv_ifb (fun hf => ?_) (fun hf => ?_)
        · iterate 1 (refine zv_step (bX2_ownWords 0) rfl rfl trivial ?_)
          exact zv_iret (bX2_ownWords 0) rfl (Or.inl rfl) (Nat.zero_le _) (Nat.zero_le _) ⟨rfl, by unfold owW; rw [if_pos (Decidable.not_not.mp hc), if_neg (Int32.not_lt.mpr hd), if_neg (Int32.not_lt.mpr he), if_neg (Int32.not_lt.mpr hf)]⟩
        · iterate 2 (refine zv_step (bX2_ownWords 0) rfl rfl trivial ?_)
          exact zv_iret (bX2_ownWords 0) rfl (Or.inl rfl) (Nat.zero_le _) (Nat.zero_le _) ⟨rfl, by unfold owW; rw [if_pos (Decidable.not_not.mp hc), if_neg (Int32.not_lt.mpr hd), if_neg (Int32.not_lt.mpr he), if_pos (Int32.not_le.mp hf)]⟩
      · iterate 2 (refine zv_step (bX2_ownWords 0) rfl rfl trivial ?_)
        exact zv_iret (bX2_ownWords 0) rfl (Or.inl rfl) (Nat.zero_le _) (Nat.zero_le _) ⟨rfl, by unfold owW; rw [if_pos (Decidable.not_not.mp hc), if_neg (Int32.not_lt.mpr hd), if_pos (Int32.not_le.mp he)]⟩
    · iterate 2 (refine zv_step (bX2_ownWords 0) rfl rfl trivial ?_)
      exact zv_iret (bX2_ownWords 0) rfl (Or.inl rfl) (Nat.zero_le _) (Nat.zero_le _) ⟨rfl, by unfold owW; rw [if_pos (Decidable.not_not.mp hc), if_pos (Int32.not_le.mp hd)]⟩
set_option maxHeartbeats 1000000 in
set_option maxRecDepth 20000 in
theorem pHasBit (w : zW) (x i : Int32) : zK 0 zX1_hasBit [.int x, .int i] w (fun r w' => w' = w ∧ ((((x >>> (i &&& 31)) &&& Int32.ofInt 1 = 0) ∧ r = some (.int 0)) ∨ ((¬ (x >>> (i &&& 31)) &&& Int32.ofInt 1 = 0) ∧ r = some (.int 1)))) := by
  refine zK_of qX1_hasBit (by decide +kernel) rfl ?_
  iterate 6 (refine zv_step (bX1_hasBit 0) rfl rfl trivial ?_)
  refine zv_ifb (fun hc => ?_) (fun hc => ?_)
  · iterate 1 (refine zv_step (bX1_hasBit 0) rfl rfl trivial ?_)
    exact zv_iret (bX1_hasBit 0) rfl (Or.inr ⟨rfl, Or.inl rfl⟩) (Nat.zero_le _) (Nat.zero_le _) ⟨rfl, Or.inl ⟨hc, rfl⟩⟩
  · iterate 2 (refine zv_step (bX1_hasBit 0) rfl rfl trivial ?_)
    exact zv_iret (bX1_hasBit 0) rfl (Or.inr ⟨rfl, Or.inr rfl⟩) (Nat.zero_le _) (Nat.zero_le _) ⟨rfl, Or.inr ⟨hc, rfl⟩⟩
