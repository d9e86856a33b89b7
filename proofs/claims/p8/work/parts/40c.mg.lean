section
theorem zv_world {M : zM} {al : Bool} {n0 kc ks pc : Nat} {l : zL} {st : List Value} {w w' : zW} {Q : Option Value → zW → Prop} (e : w = w') (h : zV M al n0 kc ks pc l st w' Q) : zV M al n0 kc ks pc l st w Q := e ▸ h
/-- what addPart writes -/
def adA (b : Nat) (P : Nat → Nat → Int32) (n x : Nat) : Nat → Nat → Int32 := updA (updA (updA (updA (updA (updA P (b + 5) (upd (P (b + 5)) n (P (b + 5) n + P (b + 5) x))) (b + 6) (upd (P (b + 6)) n (if P (b + 6) n < Int32.ofInt 1 + P (b + 6) x then Int32.ofInt 1 + P (b + 6) x else P (b + 6) n))) (b + 7) (upd (P (b + 7)) n (P (b + 7) n + P (b + 7) x))) (b + 8) (upd (P (b + 8)) n (P (b + 8) n + P (b + 8) x))) (b + 9) (upd (P (b + 9)) n (P (b + 9) n ||| P (b + 9) x))) (b + 10) (upd (P (b + 10)) n (P (b + 10) n ||| P (b + 10) x))
/-- .. where there is such a PART -/
noncomputable def adI (b : Nat) (u : Int32) (P : Nat → Nat → Int32) (n : Nat) (x : Int32) : Nat → Nat → Int32 := if 0 ≤ x.toInt ∧ x.toInt < u.toInt then adA b P n (nC x) else P
def owW (k v : Int32) : Int32 := if k = Int32.ofInt 1 then (if v < c8 10 then Int32.ofInt 1 else if v < c8 100 then Int32.ofInt 2 else if v < (Int16.ofInt 1000).toInt32 then Int32.ofInt 3 else Int32.ofInt 4) else if k = c8 8 ∨ k = c8 9 then Int32.ofInt 2 else Int32.ofInt 1
def hbW (x i : Int32) : Int32 := if (x >>> (i &&& 31)) &&& Int32.ofInt 1 = 0 then Int32.ofInt 0 else Int32.ofInt 1
/-- what put writes ahead of its PARTS -/
def putV (b : Nat) (P : Nat → Nat → Int32) (n : Nat) (k v x y ow ch le ca : Int32) : Nat → Nat → Int32 := updA (updA (updA (updA (updA (updA (updA (updA (updA (updA P (b + 1) (upd (P (b + 1)) n k)) (b + 2) (upd (P (b + 2)) n v)) (b + 3) (upd (P (b + 3)) n x)) (b + 4) (upd (P (b + 4)) n y)) (b + 5) (upd (P (b + 5)) n (Int32.ofInt 1))) (b + 6) (upd (P (b + 6)) n (Int32.ofInt 1))) (b + 7) (upd (P (b + 7)) n ow)) (b + 8) (upd (P (b + 8)) n ch)) (b + 9) (upd (P (b + 9)) n le)) (b + 10) (upd (P (b + 10)) n ca)
set_option maxHeartbeats 1000000 in
set_option maxRecDepth 20000 in
theorem pOwn (w : zW) (x v : Int32) : zK 0 zX2_ownWords [.int x, .int v] w (fun r w' => w' = w ∧ r = some (.int (owW x v))) := by
  refine zK_of qX2_ownWords (by decide +kernel) rfl ?_
  iterate 3 (refine zv_step (bX2_ownWords 0) rfl rfl trivial ?_)
  refine zv_ifb (fun hc => ?_) (fun hc => ?_)
  · iterate 3 (refine zv_step (bX2_ownWords 0) rfl rfl trivial ?_)
    refine zv_ifb (fun hd => ?_) (fun hd => ?_)
    · iterate 2 (refine zv_step (bX2_ownWords 0) rfl rfl trivial ?_)
      exact zv_iret (bX2_ownWords 0) rfl (Or.inl rfl) (Nat.zero_le _) (Nat.zero_le _) ⟨rfl, by unfold owW; rw [if_neg hc, if_pos (Or.inl hd)]⟩
    · iterate 3 (refine zv_step (bX2_ownWords 0) rfl rfl trivial ?_)
      refine zv_ifb (fun he => ?_) (fun he => ?_)
      · iterate 1 (refine zv_step (bX2_ownWords 0) rfl rfl trivial ?_)
        exact zv_iret (bX2_ownWords 0) rfl (Or.inl rfl) (Nat.zero_le _) (Nat.zero_le _) ⟨rfl, by unfold owW; rw [if_neg hc, if_neg (fun q => q.elim hd he)]⟩
      · iterate 2 (refine zv_step (bX2_ownWords 0) rfl rfl trivial ?_)
        exact zv_iret (bX2_ownWords 0) rfl (Or.inl rfl) (Nat.zero_le _) (Nat.zero_le _) ⟨rfl, by unfold owW; rw [if_neg hc, if_pos (Or.inr (Decidable.not_not.mp he))]⟩
  · iterate 3 (refine zv_step (bX2_ownWords 0) rfl rfl trivial ?_)
    refine zv_ifb (fun hd => ?_) (fun hd => ?_)
    · iterate 3 (refine zv_step (bX2_ownWords 0) rfl rfl trivial ?_)
      refine zv_ifb (fun he => ?_) (fun he => ?_)
      · iterate 3 (refine zv_step (bX2_ownWords 0) rfl rfl trivial ?_)
        refine zv_ifb (fun hf => ?_) (fun hf => ?_)
        · iterate 1 (refine zv_step (bX2_ownWords 0) rfl rfl trivial ?_)
          exact zv_iret (bX2_ownWords 0) rfl (Or.inl rfl) (Nat.zero_le _) (Nat.zero_le _) ⟨rfl, by unfold owW; rw [if_pos (Decidable.not_not.mp hc), if_neg (Int32.not_lt.mpr hd), if_neg (Int32.not_lt.mpr he), if_neg (Int32.not_lt.mpr hf)]⟩
        · iterate 2 (refine zv_step (bX2_ownWords 0) rfl rfl trivial ?_)
          exact zv_iret (bX2_ownWords 0) rfl (Or.inl rfl) (Nat.zero_le _) (Nat.zero_le _) ⟨rfl, by unfold owW; rw [if_pos (Decidable.not_not.mp hc), if_neg (Int32.not_lt.mpr hd), if_neg (Int32.not_lt.mpr he), if_pos (Int32.not_le.mp hf)]⟩
      · iterate 2 (refine zv_step (bX2_ownWords 0) rfl rfl trivial ?_)
        exact zv_iret (bX2_ownWords 0) rfl (Or.inl rfl) (Nat.zero_le _) (Nat.zero_le _) ⟨rfl, by unfold owW; rw [if_pos (Decidable.not_not.mp hc), if_neg (Int32.not_lt.mpr hd), if_pos (Int32.not_le.mp he)]⟩
    · iterate 2 (refine zv_step (bX2_ownWords 0) rfl rfl trivial ?_)
      exact zv_iret (bX2_ownWords 0) rfl (Or.inl rfl) (Nat.zero_le _) (Nat.zero_le _) ⟨rfl, by unfold owW; rw [if_pos (Decidable.not_not.mp hc), if_pos (Int32.not_le.mp hd)]⟩
set_option maxHeartbeats 1000000 in
set_option maxRecDepth 20000 in
theorem pHasBit (w : zW) (x i : Int32) : zK 0 zX1_hasBit [.int x, .int i] w (fun r w' => w' = w ∧ ((((x >>> (i &&& 31)) &&& Int32.ofInt 1 = 0) ∧ r = some (.int 0)) ∨ ((¬ (x >>> (i &&& 31)) &&& Int32.ofInt 1 = 0) ∧ r = some (.int 1)))) := by
  refine zK_of qX1_hasBit (by decide +kernel) rfl ?_
  iterate 6 (refine zv_step (bX1_hasBit 0) rfl rfl trivial ?_)
  refine zv_ifb (fun hc => ?_) (fun hc => ?_)
  · iterate 1 (refine zv_step (bX1_hasBit 0) rfl rfl trivial ?_)
    exact zv_iret (bX1_hasBit 0) rfl (Or.inr ⟨rfl, Or.inl rfl⟩) (Nat.zero_le _) (Nat.zero_le _) ⟨rfl, Or.inl ⟨hc, rfl⟩⟩
  · iterate 2 (refine zv_step (bX1_hasBit 0) rfl rfl trivial ?_)
    exact zv_iret (bX1_hasBit 0) rfl (Or.inr ⟨rfl, Or.inr rfl⟩) (Nat.zero_le _) (Nat.zero_le _) ⟨rfl, Or.inr ⟨hc, rfl⟩⟩
end
section
/-- firstAlike: the shape of the first NODE alike, or n -/
noncomputable def shQ (U : Int32) (S : Nat → Int32) (x : Int32) : Int32 := @ite _ (0 ≤ x.toInt ∧ x.toInt < U.toInt) (Classical.propDecidable _) (S x.toNatClampNeg) (Int32.ofInt (-1))
theorem shq_of {U : Int32} {S : Nat → Int32} {x : Int32} {r : Option Value} (h : ((0 ≤ x.toInt ∧ x.toInt < U.toInt) ∧ r = some (.int (S x.toNatClampNeg))) ∨ (¬ (0 ≤ x.toInt ∧ x.toInt < U.toInt) ∧ r = some (.int (Int32.ofInt (-1))))) : r = some (.int (shQ U S x)) := by
  unfold shQ
  rcases h with ⟨a, e⟩ | ⟨a, e⟩
  · rw [if_pos a]
    exact e
  · rw [if_neg a]
    exact e
def faT (b : Nat) (U : Int32) (X : Nat → Nat → Int32) (n m : Nat) : Prop := (X (b + 1) (nI m).toNatClampNeg = X (b + 1) (nI n).toNatClampNeg ∧ X (b + 2) (nI m).toNatClampNeg = X (b + 2) (nI n).toNatClampNeg) ∧ shQ U (X (b + 11)) (X (b + 3) (nI m).toNatClampNeg) = shQ U (X (b + 11)) (X (b + 3) (nI n).toNatClampNeg) ∧ shQ U (X (b + 11)) (X (b + 4) (nI m).toNatClampNeg) = shQ U (X (b + 11)) (X (b + 4) (nI n).toNatClampNeg)
noncomputable def faW (b : Nat) (U : Int32) (X : Nat → Nat → Int32) (n : Nat) : Nat → Nat → Int32
  | 0, _ => nI n
  | c + 1, m => @ite _ (faT b U X n m) (Classical.propDecidable _) (X (b + 11) (nI m).toNatClampNeg) (faW b U X n c (m + 1))
theorem faW_yes {b : Nat} {U : Int32} {X : Nat → Nat → Int32} {n c m : Nat} (h : faT b U X n m) : faW b U X n (c + 1) m = X (b + 11) (nI m).toNatClampNeg := @if_pos _ (Classical.propDecidable _) h _ _ _
theorem faW_no {b : Nat} {U : Int32} {X : Nat → Nat → Int32} {n c m : Nat} (h : ¬ faT b U X n m) : faW b U X n (c + 1) m = faW b U X n c (m + 1) := @if_neg _ (Classical.propDecidable _) h _ _ _
end
section
set_option maxHeartbeats 1000000 in
set_option maxRecDepth 20000 in
theorem pHas1 (O : Nat → Int32) (P : Nat → Nat → Int32) (Y : Nat → Nat → Int64) (g : Nat → zC) (x : Int32) : zK 0 zX2_has [.ref 1, .int x] (wX O P Y g) (fun r w' => w' = wX O P Y g ∧ (((0 ≤ x.toInt ∧ x.toInt < (O 1).toInt) ∧ r = some (.int 1)) ∨ (¬ (0 ≤ x.toInt ∧ x.toInt < (O 1).toInt) ∧ r = some (.int 0)))) := by
  refine zK_of qX2_has (by decide +kernel) rfl ?_
  iterate 2 (refine zv_step (bX2_has 0) rfl rfl trivial ?_)
  refine zv_ifb (fun hc => ?_) (fun hc => ?_)
  · rw [Int32.lt_iff_toInt_lt, Int32.toInt_zero] at hc
    iterate 1 (refine zv_step (bX2_has 0) rfl rfl trivial ?_)
    exact zv_iret (bX2_has 0) rfl (Or.inr ⟨rfl, Or.inl rfl⟩) (Nat.zero_le _) (Nat.zero_le _) ⟨rfl, Or.inr ⟨by omega, rfl⟩⟩
  · rw [Int32.lt_iff_toInt_lt, Int32.toInt_zero] at hc
    iterate 4 (refine zv_step (bX2_has 0) rfl rfl trivial ?_)
    refine zv_ifb (fun hd => ?_) (fun hd => ?_)
    · have hd : O 1 ≤ x := hd
      rw [Int32.le_iff_toInt_le] at hd
      iterate 1 (refine zv_step (bX2_has 0) rfl rfl trivial ?_)
      exact zv_iret (bX2_has 0) rfl (Or.inr ⟨rfl, Or.inl rfl⟩) (Nat.zero_le _) (Nat.zero_le _) ⟨rfl, Or.inr ⟨by omega, rfl⟩⟩
    · have hd : ¬ O 1 ≤ x := hd
      rw [Int32.le_iff_toInt_le] at hd
      iterate 2 (refine zv_step (bX2_has 0) rfl rfl trivial ?_)
      exact zv_iret (bX2_has 0) rfl (Or.inr ⟨rfl, Or.inr rfl⟩) (Nat.zero_le _) (Nat.zero_le _) ⟨rfl, Or.inl ⟨by omega, rfl⟩⟩
set_option maxHeartbeats 1000000 in
set_option maxRecDepth 20000 in
theorem pFull1 (O : Nat → Int32) (P : Nat → Nat → Int32) (Y : Nat → Nat → Int64) (g : Nat → zC) : zK 0 zX2_isFull [.ref 1] (wX O P Y g) (fun r w' => w' = wX O P Y g ∧ ((120 ≤ (O 1).toInt ∧ r = some (.int 1)) ∨ (¬ 120 ≤ (O 1).toInt ∧ r = some (.int 0)))) := by
  refine zK_of qX2_isFull (by decide +kernel) rfl ?_
  iterate 4 (refine zv_step (bX2_isFull 0) rfl rfl trivial ?_)
  refine zv_ifb (fun hc => ?_) (fun hc => ?_)
  · have hc : O 1 < c8 120 := hc
    rw [Int32.lt_iff_toInt_lt, i8c 120 (by decide)] at hc
    iterate 1 (refine zv_step (bX2_isFull 0) rfl rfl trivial ?_)
    exact zv_iret (bX2_isFull 0) rfl (Or.inr ⟨rfl, Or.inl rfl⟩) (Nat.zero_le _) (Nat.zero_le _) ⟨rfl, Or.inr ⟨by omega, rfl⟩⟩
  · have hc : ¬ O 1 < c8 120 := hc
    rw [Int32.lt_iff_toInt_lt, i8c 120 (by decide)] at hc
    iterate 2 (refine zv_step (bX2_isFull 0) rfl rfl trivial ?_)
    exact zv_iret (bX2_isFull 0) rfl (Or.inr ⟨rfl, Or.inr rfl⟩) (Nat.zero_le _) (Nat.zero_le _) ⟨rfl, Or.inl ⟨by omega, rfl⟩⟩
set_option maxHeartbeats 1000000 in
set_option maxRecDepth 20000 in
theorem pSizeOf1 (O : Nat → Int32) (P : Nat → Nat → Int32) (Y : Nat → Nat → Int64) (g : Nat → zC) (hu : (O 1).toInt ≤ 120) (x : Int32) : zK 1 zX2_sizeOf [.ref 1, .int x] (wX O P Y g) (fun r w' => w' = wX O P Y g ∧ (((0 ≤ x.toInt ∧ x.toInt < (O 1).toInt) ∧ r = some (.int (P 6 x.toNatClampNeg))) ∨ (¬ (0 ≤ x.toInt ∧ x.toInt < (O 1).toInt) ∧ r = some (.int 0)))) := by
  refine zK_of qX2_sizeOf (by decide +kernel) rfl ?_
  iterate 2 (refine zv_step (bX2_sizeOf 1) rfl rfl trivial ?_)
  refine zv_V1 (bX2_sizeOf 1) rfl rfl rfl rfl rfl rfl rfl ⟨rfl, rfl, rfl⟩ ⟨by decide, by decide⟩ ⟨Nat.zero_le _, Nat.zero_le _⟩ (pHas1 O P Y g _) ?_
  rintro _ _ ⟨rfl, ⟨hh, rfl⟩ | ⟨hh, rfl⟩⟩
  · iterate 1 (refine zv_step (bX2_sizeOf 1) rfl rfl trivial ?_)
    refine zv_iff (by decide) ?_
    iterate 3 (refine zv_step (bX2_sizeOf 1) rfl rfl trivial ?_)
    refine zv_step (bX2_sizeOf 1) rfl rfl (vp_in_iff.mpr ⟨hh.1, Int.lt_of_lt_of_le hh.2 hu⟩) ?_
    iterate 1 (refine zv_step (bX2_sizeOf 1) rfl rfl trivial ?_)
    exact zv_iret (bX2_sizeOf 1) rfl (Or.inl rfl) (Nat.zero_le _) (Nat.zero_le _) ⟨rfl, Or.inl ⟨hh, rfl⟩⟩
  · iterate 1 (refine zv_step (bX2_sizeOf 1) rfl rfl trivial ?_)
    refine zv_ift (by decide) ?_
    iterate 1 (refine zv_step (bX2_sizeOf 1) rfl rfl trivial ?_)
    exact zv_iret (bX2_sizeOf 1) rfl (Or.inl rfl) (Nat.zero_le _) (Nat.zero_le _) ⟨rfl, Or.inr ⟨hh, rfl⟩⟩
end
section
set_option maxHeartbeats 1000000 in
set_option maxRecDepth 20000 in
theorem pTop1 (O : Nat → Int32) (P : Nat → Nat → Int32) (Y : Nat → Nat → Int64) (g : Nat → zC) {x y : Int32} (hx : vp_in x 120) (hy : vp_in y 120) : zK 0 zX2_isSameTop [.ref 1, .int x, .int y] (wX O P Y g) (fun r w' => w' = wX O P Y g ∧ (((P 2 x.toNatClampNeg = P 2 y.toNatClampNeg ∧ P 3 x.toNatClampNeg = P 3 y.toNatClampNeg) ∧ r = some (.int 1)) ∨ (¬ (P 2 x.toNatClampNeg = P 2 y.toNatClampNeg ∧ P 3 x.toNatClampNeg = P 3 y.toNatClampNeg) ∧ r = some (.int 0)))) := by
  refine zK_of qX2_isSameTop (by decide +kernel) rfl ?_
  iterate 3 (refine zv_step (bX2_isSameTop 0) rfl rfl trivial ?_)
  refine zv_step (bX2_isSameTop 0) rfl rfl (hx) ?_
  iterate 3 (refine zv_step (bX2_isSameTop 0) rfl rfl trivial ?_)
  refine zv_step (bX2_isSameTop 0) rfl rfl (hy) ?_
  iterate 1 (refine zv_step (bX2_isSameTop 0) rfl rfl trivial ?_)
  refine zv_ifb (fun hc => ?_) (fun hc => ?_)
  · iterate 1 (refine zv_step (bX2_isSameTop 0) rfl rfl trivial ?_)
    exact zv_iret (bX2_isSameTop 0) rfl (Or.inr ⟨rfl, Or.inl rfl⟩) (Nat.zero_le _) (Nat.zero_le _) ⟨rfl, Or.inr ⟨fun q => hc q.1, rfl⟩⟩
  · iterate 3 (refine zv_step (bX2_isSameTop 0) rfl rfl trivial ?_)
    refine zv_step (bX2_isSameTop 0) rfl rfl (hx) ?_
    iterate 3 (refine zv_step (bX2_isSameTop 0) rfl rfl trivial ?_)
    refine zv_step (bX2_isSameTop 0) rfl rfl (hy) ?_
    iterate 1 (refine zv_step (bX2_isSameTop 0) rfl rfl trivial ?_)
    refine zv_ifb (fun hd => ?_) (fun hd => ?_)
    · iterate 1 (refine zv_step (bX2_isSameTop 0) rfl rfl trivial ?_)
      exact zv_iret (bX2_isSameTop 0) rfl (Or.inr ⟨rfl, Or.inl rfl⟩) (Nat.zero_le _) (Nat.zero_le _) ⟨rfl, Or.inr ⟨fun q => hd q.2, rfl⟩⟩
    · iterate 2 (refine zv_step (bX2_isSameTop 0) rfl rfl trivial ?_)
      exact zv_iret (bX2_isSameTop 0) rfl (Or.inr ⟨rfl, Or.inr rfl⟩) (Nat.zero_le _) (Nat.zero_le _) ⟨rfl, Or.inl ⟨⟨Decidable.not_not.mp hc, Decidable.not_not.mp hd⟩, rfl⟩⟩
set_option maxHeartbeats 1000000 in
set_option maxRecDepth 20000 in
theorem pAlike1 (O : Nat → Int32) (P : Nat → Nat → Int32) (Y : Nat → Nat → Int64) (g : Nat → zC) {x y : Int32} (hx : vp_in x 120) (hy : vp_in y 120) : zK 0 zX2_isAlike [.ref 1, .int x, .int y] (wX O P Y g) (fun r w' => w' = wX O P Y g ∧ ((P 12 x.toNatClampNeg = P 12 y.toNatClampNeg ∧ r = some (.int 1)) ∨ (¬ P 12 x.toNatClampNeg = P 12 y.toNatClampNeg ∧ r = some (.int 0)))) := by
  refine zK_of qX2_isAlike (by decide +kernel) rfl ?_
  iterate 3 (refine zv_step (bX2_isAlike 0) rfl rfl trivial ?_)
  refine zv_step (bX2_isAlike 0) rfl rfl (hx) ?_
  iterate 3 (refine zv_step (bX2_isAlike 0) rfl rfl trivial ?_)
  refine zv_step (bX2_isAlike 0) rfl rfl (hy) ?_
  iterate 1 (refine zv_step (bX2_isAlike 0) rfl rfl trivial ?_)
  refine zv_ifb (fun hc => ?_) (fun hc => ?_)
  · iterate 1 (refine zv_step (bX2_isAlike 0) rfl rfl trivial ?_)
    exact zv_iret (bX2_isAlike 0) rfl (Or.inr ⟨rfl, Or.inl rfl⟩) (Nat.zero_le _) (Nat.zero_le _) ⟨rfl, Or.inr ⟨hc, rfl⟩⟩
  · iterate 2 (refine zv_step (bX2_isAlike 0) rfl rfl trivial ?_)
    exact zv_iret (bX2_isAlike 0) rfl (Or.inr ⟨rfl, Or.inr rfl⟩) (Nat.zero_le _) (Nat.zero_le _) ⟨rfl, Or.inl ⟨Decidable.not_not.mp hc, rfl⟩⟩
set_option maxHeartbeats 1000000 in
set_option maxRecDepth 20000 in
theorem pRight1 (O : Nat → Int32) (P : Nat → Nat → Int32) (Y : Nat → Nat → Int64) (g : Nat → zC) {x : Int32} (f : Int32) (hx : vp_in x 120) : zK 0 zX2_isRight [.ref 1, .int x, .int f] (wX O P Y g) (fun r w' => w' = wX O P Y g ∧ (((P 10 x.toNatClampNeg &&& f = 0 ∧ P 11 x.toNatClampNeg &&& (f ^^^ Int32.ofInt (-1)) = 0) ∧ r = some (.int 1)) ∨ (¬ (P 10 x.toNatClampNeg &&& f = 0 ∧ P 11 x.toNatClampNeg &&& (f ^^^ Int32.ofInt (-1)) = 0) ∧ r = some (.int 0)))) := by
  refine zK_of qX2_isRight (by decide +kernel) rfl ?_
  iterate 3 (refine zv_step (bX2_isRight 0) rfl rfl trivial ?_)
  refine zv_step (bX2_isRight 0) rfl rfl (hx) ?_
  iterate 3 (refine zv_step (bX2_isRight 0) rfl rfl trivial ?_)
  refine zv_ifb (fun hc => ?_) (fun hc => ?_)
  · iterate 1 (refine zv_step (bX2_isRight 0) rfl rfl trivial ?_)
    exact zv_iret (bX2_isRight 0) rfl (Or.inr ⟨rfl, Or.inl rfl⟩) (Nat.zero_le _) (Nat.zero_le _) ⟨rfl, Or.inr ⟨fun q => hc q.1, rfl⟩⟩
  · iterate 3 (refine zv_step (bX2_isRight 0) rfl rfl trivial ?_)
    refine zv_step (bX2_isRight 0) rfl rfl (hx) ?_
    iterate 5 (refine zv_step (bX2_isRight 0) rfl rfl trivial ?_)
    refine zv_ifb (fun hd => ?_) (fun hd => ?_)
    · iterate 1 (refine zv_step (bX2_isRight 0) rfl rfl trivial ?_)
      exact zv_iret (bX2_isRight 0) rfl (Or.inr ⟨rfl, Or.inl rfl⟩) (Nat.zero_le _) (Nat.zero_le _) ⟨rfl, Or.inr ⟨fun q => hd q.2, rfl⟩⟩
    · iterate 2 (refine zv_step (bX2_isRight 0) rfl rfl trivial ?_)
      exact zv_iret (bX2_isRight 0) rfl (Or.inr ⟨rfl, Or.inr rfl⟩) (Nat.zero_le _) (Nat.zero_le _) ⟨rfl, Or.inl ⟨⟨Decidable.not_not.mp hc, Decidable.not_not.mp hd⟩, rfl⟩⟩
set_option maxHeartbeats 1000000 in
set_option maxRecDepth 20000 in
theorem pShape1 (O : Nat → Int32) (P : Nat → Nat → Int32) (Y : Nat → Nat → Int64) (g : Nat → zC) (hu : (O 1).toInt ≤ 120) (x : Int32) : zK 0 zX2_shapeOf [.ref 1, .int x] (wX O P Y g) (fun r w' => w' = wX O P Y g ∧ (((0 ≤ x.toInt ∧ x.toInt < (O 1).toInt) ∧ r = some (.int (P 12 x.toNatClampNeg))) ∨ (¬ (0 ≤ x.toInt ∧ x.toInt < (O 1).toInt) ∧ r = some (.int (Int32.ofInt (-1)))))) := by
  refine zK_of qX2_shapeOf (by decide +kernel) rfl ?_
  iterate 2 (refine zv_step (bX2_shapeOf 0) rfl rfl trivial ?_)
  refine zv_ifb (fun hc => ?_) (fun hc => ?_)
  · rw [Int32.lt_iff_toInt_lt, Int32.toInt_zero] at hc
    iterate 2 (refine zv_step (bX2_shapeOf 0) rfl rfl trivial ?_)
    exact zv_iret (bX2_shapeOf 0) rfl (Or.inl rfl) (Nat.zero_le _) (Nat.zero_le _) ⟨rfl, Or.inr ⟨by omega, rfl⟩⟩
  · rw [Int32.lt_iff_toInt_lt, Int32.toInt_zero] at hc
    iterate 4 (refine zv_step (bX2_shapeOf 0) rfl rfl trivial ?_)
    refine zv_ifb (fun hd => ?_) (fun hd => ?_)
    · have hd : x < O 1 := hd
      rw [Int32.lt_iff_toInt_lt] at hd
      iterate 3 (refine zv_step (bX2_shapeOf 0) rfl rfl trivial ?_)
      refine zv_step (bX2_shapeOf 0) rfl rfl (vp_in_iff.mpr ⟨by omega, by omega⟩) ?_
      exact zv_iret (bX2_shapeOf 0) rfl (Or.inl rfl) (Nat.zero_le _) (Nat.zero_le _) ⟨rfl, Or.inl ⟨by omega, rfl⟩⟩
    · have hd : ¬ x < O 1 := hd
      rw [Int32.lt_iff_toInt_lt] at hd
      iterate 2 (refine zv_step (bX2_shapeOf 0) rfl rfl trivial ?_)
      exact zv_iret (bX2_shapeOf 0) rfl (Or.inl rfl) (Nat.zero_le _) (Nat.zero_le _) ⟨rfl, Or.inr ⟨by omega, rfl⟩⟩
set_option maxHeartbeats 1000000 in
set_option maxRecDepth 20000 in
theorem pTally1 (O : Nat → Int32) (P : Nat → Nat → Int32) (Y : Nat → Nat → Int64) (g : Nat → zC) (hu : (O 1).toInt ≤ 120) (x : Int32) : zK 1 zX2_tallyOf [.ref 1, .int x] (wX O P Y g) (fun r w' => w' = wX O P Y g ∧ (((0 ≤ x.toInt ∧ x.toInt < (O 1).toInt) ∧ r = some (.int (P 13 x.toNatClampNeg))) ∨ (¬ (0 ≤ x.toInt ∧ x.toInt < (O 1).toInt) ∧ r = some (.int (Int32.ofInt 0))))) := by
  refine zK_of qX2_tallyOf (by decide +kernel) rfl ?_
  iterate 2 (refine zv_step (bX2_tallyOf 1) rfl rfl trivial ?_)
  refine zv_V1 (bX2_tallyOf 1) rfl rfl rfl rfl rfl rfl rfl ⟨rfl, rfl, rfl⟩ ⟨by decide, by decide⟩ ⟨Nat.zero_le _, Nat.zero_le _⟩ (pHas1 O P Y g _) ?_
  rintro _ _ ⟨rfl, ⟨hh, rfl⟩ | ⟨hh, rfl⟩⟩
  · iterate 1 (refine zv_step (bX2_tallyOf 1) rfl rfl trivial ?_)
    refine zv_iff (by decide) ?_
    iterate 3 (refine zv_step (bX2_tallyOf 1) rfl rfl trivial ?_)
    refine zv_step (bX2_tallyOf 1) rfl rfl (vp_in_iff.mpr ⟨hh.1, Int.lt_of_lt_of_le hh.2 hu⟩) ?_
    iterate 1 (refine zv_step (bX2_tallyOf 1) rfl rfl trivial ?_)
    exact zv_iret (bX2_tallyOf 1) rfl (Or.inl rfl) (Nat.zero_le _) (Nat.zero_le _) ⟨rfl, Or.inl ⟨hh, rfl⟩⟩
  · iterate 1 (refine zv_step (bX2_tallyOf 1) rfl rfl trivial ?_)
    refine zv_ift (by decide) ?_
    iterate 1 (refine zv_step (bX2_tallyOf 1) rfl rfl trivial ?_)
    exact zv_iret (bX2_tallyOf 1) rfl (Or.inl rfl) (Nat.zero_le _) (Nat.zero_le _) ⟨rfl, Or.inr ⟨hh, rfl⟩⟩
set_option maxHeartbeats 1000000 in
set_option maxRecDepth 20000 in
theorem pDiff1 (O : Nat → Int32) (P : Nat → Nat → Int32) (Y : Nat → Nat → Int64) (g : Nat → zC) (hu : (O 1).toInt ≤ 120) : ∀ k : Nat, k + 1 < 2 ^ 31 → ∀ x y z : Int32, z = nI k → zK (k + 1) zX2_difference [.ref 1, .int x, .int y, .int z] (wX O P Y g) (fun r w' => w' = wX O P Y g ∧ r = some (.int (dfP 1 P (O 1) k x y))) := by
  intro k
  induction k with
  | zero =>
    intro hf x y z hz
    subst hz
    refine zK_of qX2_difference (by decide +kernel) rfl ?_
    iterate 2 (refine zv_step (bX2_difference (0 + 1)) rfl rfl trivial ?_)
    refine zv_V1 (bX2_difference (0 + 1)) rfl rfl rfl rfl rfl rfl rfl ⟨rfl, rfl, rfl⟩ ⟨Nat.le_add_left 1 _, by show 8 + (2 + 11) + 64 * 0 ≤ 64 * (0 + 1); omega⟩ ⟨Nat.zero_le _, Nat.zero_le _⟩ (pHas1 O P Y g _) ?_
    rintro _ _ ⟨rfl, ⟨hh, rfl⟩ | ⟨hh, rfl⟩⟩
    · iterate 1 (refine zv_step (bX2_difference (0 + 1)) rfl rfl trivial ?_)
      refine zv_iff (by decide) ?_
      iterate 2 (refine zv_step (bX2_difference (0 + 1)) rfl rfl trivial ?_)
      refine zv_V1 (bX2_difference (0 + 1)) rfl rfl rfl rfl rfl rfl rfl ⟨rfl, rfl, rfl⟩ ⟨Nat.le_add_left 1 _, by show 8 + (2 + 11) + 64 * 0 ≤ 64 * (0 + 1); omega⟩ ⟨Nat.zero_le _, Nat.zero_le _⟩ (pHas1 O P Y g _) ?_
      rintro _ _ ⟨rfl, ⟨hi, rfl⟩ | ⟨hi, rfl⟩⟩
      · iterate 1 (refine zv_step (bX2_difference (0 + 1)) rfl rfl trivial ?_)
        refine zv_iff (by decide) ?_
        iterate 2 (refine zv_step (bX2_difference (0 + 1)) rfl rfl trivial ?_)
        refine zv_iff (by decide) ?_
        iterate 1 (refine zv_step (bX2_difference (0 + 1)) rfl rfl trivial ?_)
        exact zv_iret (bX2_difference (0 + 1)) rfl (Or.inl rfl) (Nat.zero_le _) (Nat.zero_le _) ⟨rfl, rfl⟩
      · iterate 1 (refine zv_step (bX2_difference (0 + 1)) rfl rfl trivial ?_)
        refine zv_ift (by decide) ?_
        iterate 1 (refine zv_step (bX2_difference (0 + 1)) rfl rfl trivial ?_)
        exact zv_iret (bX2_difference (0 + 1)) rfl (Or.inl rfl) (Nat.zero_le _) (Nat.zero_le _) ⟨rfl, rfl⟩
    · iterate 1 (refine zv_step (bX2_difference (0 + 1)) rfl rfl trivial ?_)
      refine zv_ift (by decide) ?_
      iterate 1 (refine zv_step (bX2_difference (0 + 1)) rfl rfl trivial ?_)
      exact zv_iret (bX2_difference (0 + 1)) rfl (Or.inl rfl) (Nat.zero_le _) (Nat.zero_le _) ⟨rfl, rfl⟩
  | succ k ih =>
    intro hf x y z hz
    subst hz
    have ih := ih (by omega)
    have em : nI (k + 1) - Int32.ofInt 1 = nI k := nI_m1 k
    refine zK_of qX2_difference (by decide +kernel) rfl ?_
    iterate 2 (refine zv_step (bX2_difference (k + 1 + 1)) rfl rfl trivial ?_)
    refine zv_V1 (bX2_difference (k + 1 + 1)) rfl rfl rfl rfl rfl rfl rfl ⟨rfl, rfl, rfl⟩ ⟨Nat.le_add_left 1 _, by show 8 + (2 + 11) + 64 * 0 ≤ 64 * (k + 1 + 1); omega⟩ ⟨Nat.zero_le _, Nat.zero_le _⟩ (pHas1 O P Y g _) ?_
    rintro _ _ ⟨rfl, ⟨hh, rfl⟩ | ⟨hh, rfl⟩⟩
    · iterate 1 (refine zv_step (bX2_difference (k + 1 + 1)) rfl rfl trivial ?_)
      refine zv_iff (by decide) ?_
      iterate 2 (refine zv_step (bX2_difference (k + 1 + 1)) rfl rfl trivial ?_)
      refine zv_V1 (bX2_difference (k + 1 + 1)) rfl rfl rfl rfl rfl rfl rfl ⟨rfl, rfl, rfl⟩ ⟨Nat.le_add_left 1 _, by show 8 + (2 + 11) + 64 * 0 ≤ 64 * (k + 1 + 1); omega⟩ ⟨Nat.zero_le _, Nat.zero_le _⟩ (pHas1 O P Y g _) ?_
      rintro _ _ ⟨rfl, ⟨hi, rfl⟩ | ⟨hi, rfl⟩⟩
      · iterate 1 (refine zv_step (bX2_difference (k + 1 + 1)) rfl rfl trivial ?_)
        refine zv_iff (by decide) ?_
        iterate 2 (refine zv_step (bX2_difference (k + 1 + 1)) rfl rfl trivial ?_)
        refine zv_ift (nI_gt0 (by omega)) ?_
        iterate 3 (refine zv_step (bX2_difference (k + 1 + 1)) rfl rfl trivial ?_)
        refine zv_step (bX2_difference (k + 1 + 1)) rfl rfl (vp_in_iff.mpr ⟨hh.1, Int.lt_of_lt_of_le hh.2 hu⟩) ?_
        iterate 3 (refine zv_step (bX2_difference (k + 1 + 1)) rfl rfl trivial ?_)
        refine zv_step (bX2_difference (k + 1 + 1)) rfl rfl (vp_in_iff.mpr ⟨hi.1, Int.lt_of_lt_of_le hi.2 hu⟩) ?_
        iterate 1 (refine zv_step (bX2_difference (k + 1 + 1)) rfl rfl trivial ?_)
        refine zv_ifb (fun hk => ?_) (fun hk => ?_)
        · iterate 3 (refine zv_step (bX2_difference (k + 1 + 1)) rfl rfl trivial ?_)
          refine zv_step (bX2_difference (k + 1 + 1)) rfl rfl (vp_in_iff.mpr ⟨hh.1, Int.lt_of_lt_of_le hh.2 hu⟩) ?_
          iterate 3 (refine zv_step (bX2_difference (k + 1 + 1)) rfl rfl trivial ?_)
          refine zv_step (bX2_difference (k + 1 + 1)) rfl rfl (vp_in_iff.mpr ⟨hi.1, Int.lt_of_lt_of_le hi.2 hu⟩) ?_
          iterate 1 (refine zv_step (bX2_difference (k + 1 + 1)) rfl rfl trivial ?_)
          refine zv_ifb (fun hv => ?_) (fun hv => ?_)
          · iterate 5 (refine zv_step (bX2_difference (k + 1 + 1)) rfl rfl trivial ?_)
            refine zv_step (bX2_difference (k + 1 + 1)) rfl rfl (vp_in_iff.mpr ⟨hh.1, Int.lt_of_lt_of_le hh.2 hu⟩) ?_
            iterate 3 (refine zv_step (bX2_difference (k + 1 + 1)) rfl rfl trivial ?_)
            refine zv_step (bX2_difference (k + 1 + 1)) rfl rfl (vp_in_iff.mpr ⟨hi.1, Int.lt_of_lt_of_le hi.2 hu⟩) ?_
            iterate 3 (refine zv_step (bX2_difference (k + 1 + 1)) rfl rfl trivial ?_)
            refine zv_V3 (bX2_difference (k + 1 + 1)) rfl rfl rfl rfl rfl rfl rfl ⟨rfl, rfl, rfl⟩ ⟨by show k + 1 + 1 ≤ k + 1 + 1; omega, by show 8 + (4 + 11) + 64 * (k + 1) ≤ 64 * (k + 1 + 1); omega⟩ ⟨Nat.zero_le _, Nat.zero_le _⟩ (ih _ _ _ em) ?_
            rintro _ _ ⟨rfl, rfl⟩
            iterate 5 (refine zv_step (bX2_difference (k + 1 + 1)) rfl rfl trivial ?_)
            refine zv_step (bX2_difference (k + 1 + 1)) rfl rfl (vp_in_iff.mpr ⟨hh.1, Int.lt_of_lt_of_le hh.2 hu⟩) ?_
            iterate 3 (refine zv_step (bX2_difference (k + 1 + 1)) rfl rfl trivial ?_)
            refine zv_step (bX2_difference (k + 1 + 1)) rfl rfl (vp_in_iff.mpr ⟨hi.1, Int.lt_of_lt_of_le hi.2 hu⟩) ?_
            iterate 3 (refine zv_step (bX2_difference (k + 1 + 1)) rfl rfl trivial ?_)
            refine zv_V3 (bX2_difference (k + 1 + 1)) rfl rfl rfl rfl rfl rfl rfl ⟨rfl, rfl, rfl⟩ ⟨by show k + 1 + 1 ≤ k + 1 + 1; omega, by show 8 + (4 + 11) + 64 * (k + 1) ≤ 64 * (k + 1 + 1); omega⟩ ⟨Nat.zero_le _, Nat.zero_le _⟩ (ih _ _ _ em) ?_
            rintro _ _ ⟨rfl, rfl⟩
            iterate 1 (refine zv_step (bX2_difference (k + 1 + 1)) rfl rfl trivial ?_)
            exact zv_iret (bX2_difference (k + 1 + 1)) rfl (Or.inl rfl) (Nat.zero_le _) (Nat.zero_le _) ⟨rfl, by rw [dfP_s, if_pos hh, if_pos hi, if_pos (show P (1 + 1) (nC x) = P (1 + 1) (nC y) from hk), if_neg (show ¬ P (1 + 2) (nC x) = P (1 + 2) (nC y) from hv)] <;> rfl⟩
          · iterate 6 (refine zv_step (bX2_difference (k + 1 + 1)) rfl rfl trivial ?_)
            refine zv_step (bX2_difference (k + 1 + 1)) rfl rfl (vp_in_iff.mpr ⟨hh.1, Int.lt_of_lt_of_le hh.2 hu⟩) ?_
            iterate 3 (refine zv_step (bX2_difference (k + 1 + 1)) rfl rfl trivial ?_)
            refine zv_step (bX2_difference (k + 1 + 1)) rfl rfl (vp_in_iff.mpr ⟨hi.1, Int.lt_of_lt_of_le hi.2 hu⟩) ?_
            iterate 3 (refine zv_step (bX2_difference (k + 1 + 1)) rfl rfl trivial ?_)
            refine zv_V3 (bX2_difference (k + 1 + 1)) rfl rfl rfl rfl rfl rfl rfl ⟨rfl, rfl, rfl⟩ ⟨by show k + 1 + 1 ≤ k + 1 + 1; omega, by show 8 + (4 + 11) + 64 * (k + 1) ≤ 64 * (k + 1 + 1); omega⟩ ⟨Nat.zero_le _, Nat.zero_le _⟩ (ih _ _ _ em) ?_
            rintro _ _ ⟨rfl, rfl⟩
            iterate 5 (refine zv_step (bX2_difference (k + 1 + 1)) rfl rfl trivial ?_)
            refine zv_step (bX2_difference (k + 1 + 1)) rfl rfl (vp_in_iff.mpr ⟨hh.1, Int.lt_of_lt_of_le hh.2 hu⟩) ?_
            iterate 3 (refine zv_step (bX2_difference (k + 1 + 1)) rfl rfl trivial ?_)
            refine zv_step (bX2_difference (k + 1 + 1)) rfl rfl (vp_in_iff.mpr ⟨hi.1, Int.lt_of_lt_of_le hi.2 hu⟩) ?_
            iterate 3 (refine zv_step (bX2_difference (k + 1 + 1)) rfl rfl trivial ?_)
            refine zv_V3 (bX2_difference (k + 1 + 1)) rfl rfl rfl rfl rfl rfl rfl ⟨rfl, rfl, rfl⟩ ⟨by show k + 1 + 1 ≤ k + 1 + 1; omega, by show 8 + (4 + 11) + 64 * (k + 1) ≤ 64 * (k + 1 + 1); omega⟩ ⟨Nat.zero_le _, Nat.zero_le _⟩ (ih _ _ _ em) ?_
            rintro _ _ ⟨rfl, rfl⟩
            iterate 1 (refine zv_step (bX2_difference (k + 1 + 1)) rfl rfl trivial ?_)
            exact zv_iret (bX2_difference (k + 1 + 1)) rfl (Or.inl rfl) (Nat.zero_le _) (Nat.zero_le _) ⟨rfl, by rw [dfP_s, if_pos hh, if_pos hi, if_pos (show P (1 + 1) (nC x) = P (1 + 1) (nC y) from hk), if_pos (show P (1 + 2) (nC x) = P (1 + 2) (nC y) from Decidable.not_not.mp hv)] <;> rfl⟩
        · iterate 3 (refine zv_step (bX2_difference (k + 1 + 1)) rfl rfl trivial ?_)
          refine zv_step (bX2_difference (k + 1 + 1)) rfl rfl (vp_in_iff.mpr ⟨hh.1, Int.lt_of_lt_of_le hh.2 hu⟩) ?_
          iterate 3 (refine zv_step (bX2_difference (k + 1 + 1)) rfl rfl trivial ?_)
          refine zv_step (bX2_difference (k + 1 + 1)) rfl rfl (vp_in_iff.mpr ⟨hi.1, Int.lt_of_lt_of_le hi.2 hu⟩) ?_
          iterate 1 (refine zv_step (bX2_difference (k + 1 + 1)) rfl rfl trivial ?_)
          exact zv_iret (bX2_difference (k + 1 + 1)) rfl (Or.inl rfl) (Nat.zero_le _) (Nat.zero_le _) ⟨rfl, by rw [dfP_s, if_pos hh, if_pos hi, if_neg (show ¬ P (1 + 1) (nC x) = P (1 + 1) (nC y) from hk)] <;> rfl⟩
      · iterate 1 (refine zv_step (bX2_difference (k + 1 + 1)) rfl rfl trivial ?_)
        refine zv_ift (by decide) ?_
        iterate 1 (refine zv_step (bX2_difference (k + 1 + 1)) rfl rfl trivial ?_)
        exact zv_iret (bX2_difference (k + 1 + 1)) rfl (Or.inl rfl) (Nat.zero_le _) (Nat.zero_le _) ⟨rfl, by rw [dfP_s, if_pos hh, if_neg hi]⟩
    · iterate 1 (refine zv_step (bX2_difference (k + 1 + 1)) rfl rfl trivial ?_)
      refine zv_ift (by decide) ?_
      iterate 1 (refine zv_step (bX2_difference (k + 1 + 1)) rfl rfl trivial ?_)
      exact zv_iret (bX2_difference (k + 1 + 1)) rfl (Or.inl rfl) (Nat.zero_le _) (Nat.zero_le _) ⟨rfl, by rw [dfP_s, if_neg hh]⟩
set_option maxHeartbeats 1000000 in
set_option maxRecDepth 20000 in
theorem pExch1 (O : Nat → Int32) (P : Nat → Nat → Int32) (Y : Nat → Nat → Int64) (g : Nat → zC) (hu : (O 1).toInt ≤ 120) : ∀ k : Nat, k + 1 < 2 ^ 31 → ∀ x y z : Int32, z = nI k → zK (k + 1) zX2_exchanges [.ref 1, .int x, .int y, .int z] (wX O P Y g) (fun r w' => w' = wX O P Y g ∧ r = some (.int (exP 1 P (O 1) k x y))) := by
  intro k
  induction k with
  | zero =>
    intro hf x y z hz
    subst hz
    refine zK_of qX2_exchanges (by decide +kernel) rfl ?_
    iterate 2 (refine zv_step (bX2_exchanges (0 + 1)) rfl rfl trivial ?_)
    refine zv_V1 (bX2_exchanges (0 + 1)) rfl rfl rfl rfl rfl rfl rfl ⟨rfl, rfl, rfl⟩ ⟨Nat.le_add_left 1 _, by show 8 + (2 + 11) + 64 * 0 ≤ 64 * (0 + 1); omega⟩ ⟨Nat.zero_le _, Nat.zero_le _⟩ (pHas1 O P Y g _) ?_
    rintro _ _ ⟨rfl, ⟨hh, rfl⟩ | ⟨hh, rfl⟩⟩
    · iterate 1 (refine zv_step (bX2_exchanges (0 + 1)) rfl rfl trivial ?_)
      refine zv_iff (by decide) ?_
      iterate 2 (refine zv_step (bX2_exchanges (0 + 1)) rfl rfl trivial ?_)
      refine zv_V1 (bX2_exchanges (0 + 1)) rfl rfl rfl rfl rfl rfl rfl ⟨rfl, rfl, rfl⟩ ⟨Nat.le_add_left 1 _, by show 8 + (2 + 11) + 64 * 0 ≤ 64 * (0 + 1); omega⟩ ⟨Nat.zero_le _, Nat.zero_le _⟩ (pHas1 O P Y g _) ?_
      rintro _ _ ⟨rfl, ⟨hi, rfl⟩ | ⟨hi, rfl⟩⟩
      · iterate 1 (refine zv_step (bX2_exchanges (0 + 1)) rfl rfl trivial ?_)
        refine zv_iff (by decide) ?_
        iterate 2 (refine zv_step (bX2_exchanges (0 + 1)) rfl rfl trivial ?_)
        refine zv_iff (by decide) ?_
        iterate 1 (refine zv_step (bX2_exchanges (0 + 1)) rfl rfl trivial ?_)
        exact zv_iret (bX2_exchanges (0 + 1)) rfl (Or.inl rfl) (Nat.zero_le _) (Nat.zero_le _) ⟨rfl, rfl⟩
      · iterate 1 (refine zv_step (bX2_exchanges (0 + 1)) rfl rfl trivial ?_)
        refine zv_ift (by decide) ?_
        iterate 1 (refine zv_step (bX2_exchanges (0 + 1)) rfl rfl trivial ?_)
        exact zv_iret (bX2_exchanges (0 + 1)) rfl (Or.inl rfl) (Nat.zero_le _) (Nat.zero_le _) ⟨rfl, rfl⟩
    · iterate 1 (refine zv_step (bX2_exchanges (0 + 1)) rfl rfl trivial ?_)
      refine zv_ift (by decide) ?_
      iterate 1 (refine zv_step (bX2_exchanges (0 + 1)) rfl rfl trivial ?_)
      exact zv_iret (bX2_exchanges (0 + 1)) rfl (Or.inl rfl) (Nat.zero_le _) (Nat.zero_le _) ⟨rfl, rfl⟩
  | succ k ih =>
    intro hf x y z hz
    subst hz
    have ih := ih (by omega)
    have em : nI (k + 1) - Int32.ofInt 1 = nI k := nI_m1 k
    refine zK_of qX2_exchanges (by decide +kernel) rfl ?_
    iterate 2 (refine zv_step (bX2_exchanges (k + 1 + 1)) rfl rfl trivial ?_)
    refine zv_V1 (bX2_exchanges (k + 1 + 1)) rfl rfl rfl rfl rfl rfl rfl ⟨rfl, rfl, rfl⟩ ⟨Nat.le_add_left 1 _, by show 8 + (2 + 11) + 64 * 0 ≤ 64 * (k + 1 + 1); omega⟩ ⟨Nat.zero_le _, Nat.zero_le _⟩ (pHas1 O P Y g _) ?_
    rintro _ _ ⟨rfl, ⟨hh, rfl⟩ | ⟨hh, rfl⟩⟩
    · iterate 1 (refine zv_step (bX2_exchanges (k + 1 + 1)) rfl rfl trivial ?_)
      refine zv_iff (by decide) ?_
      iterate 2 (refine zv_step (bX2_exchanges (k + 1 + 1)) rfl rfl trivial ?_)
      refine zv_V1 (bX2_exchanges (k + 1 + 1)) rfl rfl rfl rfl rfl rfl rfl ⟨rfl, rfl, rfl⟩ ⟨Nat.le_add_left 1 _, by show 8 + (2 + 11) + 64 * 0 ≤ 64 * (k + 1 + 1); omega⟩ ⟨Nat.zero_le _, Nat.zero_le _⟩ (pHas1 O P Y g _) ?_
      rintro _ _ ⟨rfl, ⟨hi, rfl⟩ | ⟨hi, rfl⟩⟩
      · iterate 1 (refine zv_step (bX2_exchanges (k + 1 + 1)) rfl rfl trivial ?_)
        refine zv_iff (by decide) ?_
        iterate 2 (refine zv_step (bX2_exchanges (k + 1 + 1)) rfl rfl trivial ?_)
        refine zv_ift (nI_gt0 (by omega)) ?_
        iterate 3 (refine zv_step (bX2_exchanges (k + 1 + 1)) rfl rfl trivial ?_)
        refine zv_step (bX2_exchanges (k + 1 + 1)) rfl rfl (vp_in_iff.mpr ⟨hh.1, Int.lt_of_lt_of_le hh.2 hu⟩) ?_
        iterate 3 (refine zv_step (bX2_exchanges (k + 1 + 1)) rfl rfl trivial ?_)
        refine zv_step (bX2_exchanges (k + 1 + 1)) rfl rfl (vp_in_iff.mpr ⟨hi.1, Int.lt_of_lt_of_le hi.2 hu⟩) ?_
        iterate 1 (refine zv_step (bX2_exchanges (k + 1 + 1)) rfl rfl trivial ?_)
        refine zv_ifb (fun hk => ?_) (fun hk => ?_)
        · iterate 4 (refine zv_step (bX2_exchanges (k + 1 + 1)) rfl rfl trivial ?_)
          refine zv_step (bX2_exchanges (k + 1 + 1)) rfl rfl (vp_in_iff.mpr ⟨hh.1, Int.lt_of_lt_of_le hh.2 hu⟩) ?_
          iterate 3 (refine zv_step (bX2_exchanges (k + 1 + 1)) rfl rfl trivial ?_)
          refine zv_step (bX2_exchanges (k + 1 + 1)) rfl rfl (vp_in_iff.mpr ⟨hi.1, Int.lt_of_lt_of_le hi.2 hu⟩) ?_
          iterate 3 (refine zv_step (bX2_exchanges (k + 1 + 1)) rfl rfl trivial ?_)
          refine zv_V3 (bX2_exchanges (k + 1 + 1)) rfl rfl rfl rfl rfl rfl rfl ⟨rfl, rfl, rfl⟩ ⟨by show k + 1 + 1 ≤ k + 1 + 1; omega, by show 8 + (4 + 11) + 64 * (k + 1) ≤ 64 * (k + 1 + 1); omega⟩ ⟨Nat.zero_le _, Nat.zero_le _⟩ (ih _ _ _ em) ?_
          rintro _ _ ⟨rfl, rfl⟩
          iterate 4 (refine zv_step (bX2_exchanges (k + 1 + 1)) rfl rfl trivial ?_)
          refine zv_step (bX2_exchanges (k + 1 + 1)) rfl rfl (vp_in_iff.mpr ⟨hh.1, Int.lt_of_lt_of_le hh.2 hu⟩) ?_
          iterate 3 (refine zv_step (bX2_exchanges (k + 1 + 1)) rfl rfl trivial ?_)
          refine zv_step (bX2_exchanges (k + 1 + 1)) rfl rfl (vp_in_iff.mpr ⟨hi.1, Int.lt_of_lt_of_le hi.2 hu⟩) ?_
          iterate 3 (refine zv_step (bX2_exchanges (k + 1 + 1)) rfl rfl trivial ?_)
          refine zv_V3 (bX2_exchanges (k + 1 + 1)) rfl rfl rfl rfl rfl rfl rfl ⟨rfl, rfl, rfl⟩ ⟨by show k + 1 + 1 ≤ k + 1 + 1; omega, by show 8 + (4 + 11) + 64 * (k + 1) ≤ 64 * (k + 1 + 1); omega⟩ ⟨Nat.zero_le _, Nat.zero_le _⟩ (ih _ _ _ em) ?_
          rintro _ _ ⟨rfl, rfl⟩
          iterate 1 (refine zv_step (bX2_exchanges (k + 1 + 1)) rfl rfl trivial ?_)
          exact zv_iret (bX2_exchanges (k + 1 + 1)) rfl (Or.inl rfl) (Nat.zero_le _) (Nat.zero_le _) ⟨rfl, by rw [exP_s, if_pos hh, if_pos hi, if_pos (show P (1 + 1) (nC x) = P (1 + 1) (nC y) from hk)] <;> rfl⟩
        · iterate 1 (refine zv_step (bX2_exchanges (k + 1 + 1)) rfl rfl trivial ?_)
          exact zv_iret (bX2_exchanges (k + 1 + 1)) rfl (Or.inl rfl) (Nat.zero_le _) (Nat.zero_le _) ⟨rfl, by rw [exP_s, if_pos hh, if_pos hi, if_neg (show ¬ P (1 + 1) (nC x) = P (1 + 1) (nC y) from hk)] <;> rfl⟩
      · iterate 1 (refine zv_step (bX2_exchanges (k + 1 + 1)) rfl rfl trivial ?_)
        refine zv_ift (by decide) ?_
        iterate 1 (refine zv_step (bX2_exchanges (k + 1 + 1)) rfl rfl trivial ?_)
        exact zv_iret (bX2_exchanges (k + 1 + 1)) rfl (Or.inl rfl) (Nat.zero_le _) (Nat.zero_le _) ⟨rfl, by rw [exP_s, if_pos hh, if_neg hi]⟩
    · iterate 1 (refine zv_step (bX2_exchanges (k + 1 + 1)) rfl rfl trivial ?_)
      refine zv_ift (by decide) ?_
      iterate 1 (refine zv_step (bX2_exchanges (k + 1 + 1)) rfl rfl trivial ?_)
      exact zv_iret (bX2_exchanges (k + 1 + 1)) rfl (Or.inl rfl) (Nat.zero_le _) (Nat.zero_le _) ⟨rfl, by rw [exP_s, if_neg hh]⟩
end
section
set_option maxHeartbeats 1000000 in
set_option maxRecDepth 20000 in
theorem pAdd1 (O : Nat → Int32) (P : Nat → Nat → Int32) (Y : Nat → Nat → Int64) (g : Nat → zC) (hu : (O 1).toInt ≤ 120) {n x : Int32} (hn : vp_in n 120) : zK 1 zX2_addPart [.ref 1, .int n, .int x] (wX O P Y g) (fun r w' => r = none ∧ w' = wX O (adI 1 (O 1) P (nC n) x) Y g) := by
  refine zK_of qX2_addPart (by decide +kernel) rfl ?_
  iterate 2 (refine zv_step (bX2_addPart 1) rfl rfl trivial ?_)
  refine zv_V1 (bX2_addPart 1) rfl rfl rfl rfl rfl rfl rfl ⟨rfl, rfl, rfl⟩ ⟨by decide, by decide⟩ ⟨Nat.zero_le _, Nat.zero_le _⟩ (pHas1 O P Y g _) ?_
  rintro _ _ ⟨rfl, ⟨hh, rfl⟩ | ⟨hh, rfl⟩⟩
  · iterate 1 (refine zv_step (bX2_addPart 1) rfl rfl trivial ?_)
    refine zv_ift (by decide) ?_
    iterate 4 (refine zv_step (bX2_addPart 1) rfl rfl trivial ?_)
    refine zv_step (bX2_addPart 1) rfl rfl (hn) ?_
    iterate 3 (refine zv_step (bX2_addPart 1) rfl rfl trivial ?_)
    refine zv_step (bX2_addPart 1) rfl rfl (vp_in_iff.mpr ⟨hh.1, Int.lt_of_lt_of_le hh.2 hu⟩) ?_
    iterate 1 (refine zv_step (bX2_addPart 1) rfl rfl trivial ?_)
    refine zv_step (bX2_addPart 1) rfl rfl (hn) ?_
    iterate 6 (refine zv_step (bX2_addPart 1) rfl rfl trivial ?_)
    refine zv_step (bX2_addPart 1) rfl rfl (hn) ?_
    iterate 4 (refine zv_step (bX2_addPart 1) rfl rfl trivial ?_)
    refine zv_step (bX2_addPart 1) rfl rfl (vp_in_iff.mpr ⟨hh.1, Int.lt_of_lt_of_le hh.2 hu⟩) ?_
    iterate 1 (refine zv_step (bX2_addPart 1) rfl rfl trivial ?_)
    refine zv_maxI (bX2_addPart 1) rfl zMaxI rfl ⟨by decide, by decide⟩ ⟨Nat.zero_le _, Nat.zero_le _⟩ ?_
    refine zv_step (bX2_addPart 1) rfl rfl (hn) ?_
    iterate 4 (refine zv_step (bX2_addPart 1) rfl rfl trivial ?_)
    refine zv_step (bX2_addPart 1) rfl rfl (hn) ?_
    iterate 3 (refine zv_step (bX2_addPart 1) rfl rfl trivial ?_)
    refine zv_step (bX2_addPart 1) rfl rfl (vp_in_iff.mpr ⟨hh.1, Int.lt_of_lt_of_le hh.2 hu⟩) ?_
    iterate 1 (refine zv_step (bX2_addPart 1) rfl rfl trivial ?_)
    refine zv_step (bX2_addPart 1) rfl rfl (hn) ?_
    iterate 4 (refine zv_step (bX2_addPart 1) rfl rfl trivial ?_)
    refine zv_step (bX2_addPart 1) rfl rfl (hn) ?_
    iterate 3 (refine zv_step (bX2_addPart 1) rfl rfl trivial ?_)
    refine zv_step (bX2_addPart 1) rfl rfl (vp_in_iff.mpr ⟨hh.1, Int.lt_of_lt_of_le hh.2 hu⟩) ?_
    iterate 1 (refine zv_step (bX2_addPart 1) rfl rfl trivial ?_)
    refine zv_step (bX2_addPart 1) rfl rfl (hn) ?_
    iterate 4 (refine zv_step (bX2_addPart 1) rfl rfl trivial ?_)
    refine zv_step (bX2_addPart 1) rfl rfl (hn) ?_
    iterate 3 (refine zv_step (bX2_addPart 1) rfl rfl trivial ?_)
    refine zv_step (bX2_addPart 1) rfl rfl (vp_in_iff.mpr ⟨hh.1, Int.lt_of_lt_of_le hh.2 hu⟩) ?_
    iterate 1 (refine zv_step (bX2_addPart 1) rfl rfl trivial ?_)
    refine zv_step (bX2_addPart 1) rfl rfl (hn) ?_
    iterate 4 (refine zv_step (bX2_addPart 1) rfl rfl trivial ?_)
    refine zv_step (bX2_addPart 1) rfl rfl (hn) ?_
    iterate 3 (refine zv_step (bX2_addPart 1) rfl rfl trivial ?_)
    refine zv_step (bX2_addPart 1) rfl rfl (vp_in_iff.mpr ⟨hh.1, Int.lt_of_lt_of_le hh.2 hu⟩) ?_
    iterate 1 (refine zv_step (bX2_addPart 1) rfl rfl trivial ?_)
    refine zv_step (bX2_addPart 1) rfl rfl (hn) ?_
    exact zv_ret (bX2_addPart 1) rfl rfl (Nat.zero_le _) (Nat.zero_le _) ⟨rfl, by unfold adI; rw [if_pos hh]; rfl⟩
  · iterate 1 (refine zv_step (bX2_addPart 1) rfl rfl trivial ?_)
    refine zv_iff (by decide) ?_
    exact zv_ret (bX2_addPart 1) rfl rfl (Nat.zero_le _) (Nat.zero_le _) ⟨rfl, by unfold adI; rw [if_neg hh]⟩
set_option maxHeartbeats 1000000 in
set_option maxRecDepth 20000 in
theorem pFirstL1 (O : Nat → Int32) (P : Nat → Nat → Int32) (Y : Nat → Nat → Int64) (g : Nat → zC) (hu : (O 1).toInt ≤ 120) {n : Nat} (hn : n < 120) {n0 : Nat} : ∀ (c m : Nat), m + c = n → ∀ {x2 : Int32}, x2 = nI m → zV (zMo 1 zX2_firstAlike) false n0 0 0 2 [(2, .int x2), (0, .ref 1), (1, .int (nI n))] [] (wX O P Y g) (fun r w' => w' = wX O P Y g ∧ r = some (.int (faW 1 (O 1) P n c m))) := by
  intro c
  induction c with
  | zero =>
    intro m hm x2 e2
    subst e2
    iterate 3 (refine zv_step (bX2_firstAlike 1) rfl rfl trivial ?_)
    refine zv_ift (nI_le (by omega) (by omega)) ?_
    iterate 1 (refine zv_step (bX2_firstAlike 1) rfl rfl trivial ?_)
    exact zv_iret (bX2_firstAlike 1) rfl (Or.inl rfl) (Nat.zero_le _) (Nat.zero_le _) ⟨rfl, rfl⟩
  | succ c ih =>
    intro m hm x2 e2
    subst e2
    iterate 3 (refine zv_step (bX2_firstAlike 1) rfl rfl trivial ?_)
    refine zv_iff (nI_ge (by omega) (by omega)) ?_
    iterate 3 (refine zv_step (bX2_firstAlike 1) rfl rfl trivial ?_)
    refine zv_V2 (bX2_firstAlike 1) rfl rfl rfl rfl rfl rfl rfl ⟨rfl, rfl, rfl⟩ ⟨by decide, by decide⟩ ⟨Nat.zero_le _, Nat.zero_le _⟩ (pTop1 O P Y g (vp_in_nI (n := m) (by omega) (by decide)) (vp_in_nI (n := n) (by omega) (by decide))) ?_
    rintro _ _ ⟨rfl, ⟨ht, rfl⟩ | ⟨ht, rfl⟩⟩
    · iterate 1 (refine zv_step (bX2_firstAlike 1) rfl rfl trivial ?_)
      refine zv_iff (by decide) ?_
      iterate 4 (refine zv_step (bX2_firstAlike 1) rfl rfl trivial ?_)
      refine zv_step (bX2_firstAlike 1) rfl rfl (vp_in_nI (n := m) (by omega) (by decide)) ?_
      refine zv_V1 (bX2_firstAlike 1) rfl rfl rfl rfl rfl rfl rfl ⟨rfl, rfl, rfl⟩ ⟨by decide, by decide⟩ ⟨Nat.zero_le _, Nat.zero_le _⟩ (pShape1 O P Y g hu _) ?_
      intro r1 w1 hq1
      obtain ⟨rfl, h1⟩ := hq1
      obtain rfl := shq_of h1
      iterate 4 (refine zv_step (bX2_firstAlike 1) rfl rfl trivial ?_)
      refine zv_step (bX2_firstAlike 1) rfl rfl (vp_in_nI (n := n) (by omega) (by decide)) ?_
      refine zv_V1 (bX2_firstAlike 1) rfl rfl rfl rfl rfl rfl rfl ⟨rfl, rfl, rfl⟩ ⟨by decide, by decide⟩ ⟨Nat.zero_le _, Nat.zero_le _⟩ (pShape1 O P Y g hu _) ?_
      intro r2 w2 hq2
      obtain ⟨rfl, h2⟩ := hq2
      obtain rfl := shq_of h2
      iterate 1 (refine zv_step (bX2_firstAlike 1) rfl rfl trivial ?_)
      refine zv_ifb (fun hs => ?_) (fun hs => ?_)
      · iterate 2 (refine zv_step (bX2_firstAlike 1) rfl rfl trivial ?_)
        rw [faW_no (fun q => hs q.2.1)]
        exact ih (m + 1) (by omega) (nI_1 m)
      · iterate 4 (refine zv_step (bX2_firstAlike 1) rfl rfl trivial ?_)
        refine zv_step (bX2_firstAlike 1) rfl rfl (vp_in_nI (n := m) (by omega) (by decide)) ?_
        refine zv_V1 (bX2_firstAlike 1) rfl rfl rfl rfl rfl rfl rfl ⟨rfl, rfl, rfl⟩ ⟨by decide, by decide⟩ ⟨Nat.zero_le _, Nat.zero_le _⟩ (pShape1 O P Y g hu _) ?_
        intro r3 w3 hq3
        obtain ⟨rfl, h3⟩ := hq3
        obtain rfl := shq_of h3
        iterate 4 (refine zv_step (bX2_firstAlike 1) rfl rfl trivial ?_)
        refine zv_step (bX2_firstAlike 1) rfl rfl (vp_in_nI (n := n) (by omega) (by decide)) ?_
        refine zv_V1 (bX2_firstAlike 1) rfl rfl rfl rfl rfl rfl rfl ⟨rfl, rfl, rfl⟩ ⟨by decide, by decide⟩ ⟨Nat.zero_le _, Nat.zero_le _⟩ (pShape1 O P Y g hu _) ?_
        intro r4 w4 hq4
        obtain ⟨rfl, h4⟩ := hq4
        obtain rfl := shq_of h4
        iterate 1 (refine zv_step (bX2_firstAlike 1) rfl rfl trivial ?_)
        refine zv_ifb (fun hs2 => ?_) (fun hs2 => ?_)
        · iterate 2 (refine zv_step (bX2_firstAlike 1) rfl rfl trivial ?_)
          rw [faW_no (fun q => hs2 q.2.2)]
          exact ih (m + 1) (by omega) (nI_1 m)
        · iterate 3 (refine zv_step (bX2_firstAlike 1) rfl rfl trivial ?_)
          refine zv_step (bX2_firstAlike 1) rfl rfl (vp_in_nI (n := m) (by omega) (by decide)) ?_
          exact zv_iret (bX2_firstAlike 1) rfl (Or.inl rfl) (Nat.zero_le _) (Nat.zero_le _) ⟨rfl, congrArg (fun v => some (Value.int v)) (faW_yes ⟨ht, Decidable.not_not.mp hs, Decidable.not_not.mp hs2⟩).symm⟩
    · iterate 1 (refine zv_step (bX2_firstAlike 1) rfl rfl trivial ?_)
      refine zv_ift (by decide) ?_
      iterate 2 (refine zv_step (bX2_firstAlike 1) rfl rfl trivial ?_)
      rw [faW_no (fun q => ht q.1)]
      exact ih (m + 1) (by omega) (nI_1 m)
set_option maxHeartbeats 1000000 in
set_option maxRecDepth 20000 in
theorem pFirst1 (O : Nat → Int32) (P : Nat → Nat → Int32) (Y : Nat → Nat → Int64) (g : Nat → zC) (hu : (O 1).toInt ≤ 120) {n : Nat} (hn : n < 120) {x : Int32} (e : x = nI n) : zK 1 zX2_firstAlike [.ref 1, .int x] (wX O P Y g) (fun r w' => w' = wX O P Y g ∧ r = some (.int (faW 1 (O 1) P n n 0))) := by
  subst e
  refine zK_of qX2_firstAlike (by decide +kernel) rfl ?_
  iterate 2 (refine zv_step (bX2_firstAlike 1) rfl rfl trivial ?_)
  exact pFirstL1 O P Y g hu hn n 0 (by omega) rfl
set_option maxHeartbeats 1000000 in
set_option maxRecDepth 20000 in
theorem pPutL1 (O : Nat → Int32) (P : Nat → Nat → Int32) (Y : Nat → Nat → Int64) (g : Nat → zC) (hu : (O 1).toInt ≤ 120) {m : Nat} (hm : m < 120) (hmu : O 1 = nI m) (k v x y ow ch le ca : Int32) {n0 : Nat} {Q : Option Value → zW → Prop} (kk : ∀ sh, sh = faW 1 (O 1) (adI 1 (O 1) (adI 1 (O 1) (putV 1 P (nC (O 1)) k v x y ow ch le ca) (nC (O 1)) x) (nC (O 1)) y) m m 0 → Q (some (.int (O 1))) (wX (upd O 1 (O 1 + Int32.ofInt 1)) (updA (adI 1 (O 1) (adI 1 (O 1) (putV 1 P (nC (O 1)) k v x y ow ch le ca) (nC (O 1)) x) (nC (O 1)) y) 12 (upd ((adI 1 (O 1) (adI 1 (O 1) (putV 1 P (nC (O 1)) k v x y ow ch le ca) (nC (O 1)) x) (nC (O 1)) y) 12) (nC (O 1)) sh)) Y g)) : zV (zMo 2 zX2_put) false n0 0 0 136 [(5, .int (O 1)), (0, .ref 1), (1, .int k), (2, .int v), (3, .int x), (4, .int y)] [] (wX O (putV 1 P (nC (O 1)) k v x y ow ch le ca) Y g) Q := by
  have hv : vp_in (O 1) 120 := by rw [hmu]; exact vp_in_nI hm (by decide)
  iterate 3 (refine zv_step (bX2_put 2) rfl rfl trivial ?_)
  refine zv_V2 (bX2_put 2) rfl rfl rfl rfl rfl rfl rfl ⟨rfl, rfl, rfl⟩ ⟨by decide, by decide⟩ ⟨Nat.zero_le _, Nat.zero_le _⟩ (pAdd1 O (putV 1 P (nC (O 1)) k v x y ow ch le ca) Y g hu hv) ?_
  rintro _ _ ⟨rfl, rfl⟩
  iterate 3 (refine zv_step (bX2_put 2) rfl rfl trivial ?_)
  refine zv_V2 (bX2_put 2) rfl rfl rfl rfl rfl rfl rfl ⟨rfl, rfl, rfl⟩ ⟨by decide, by decide⟩ ⟨Nat.zero_le _, Nat.zero_le _⟩ (pAdd1 O (adI 1 (O 1) (putV 1 P (nC (O 1)) k v x y ow ch le ca) (nC (O 1)) x) Y g hu hv) ?_
  rintro _ _ ⟨rfl, rfl⟩
  iterate 5 (refine zv_step (bX2_put 2) rfl rfl trivial ?_)
  refine zv_V1 (bX2_put 2) rfl rfl rfl rfl rfl rfl rfl ⟨rfl, rfl, rfl⟩ ⟨by decide, by decide⟩ ⟨Nat.zero_le _, Nat.zero_le _⟩ (pFirst1 O (adI 1 (O 1) (adI 1 (O 1) (putV 1 P (nC (O 1)) k v x y ow ch le ca) (nC (O 1)) x) (nC (O 1)) y) Y g hu hm hmu) ?_
  rintro _ _ ⟨rfl, rfl⟩
  refine zv_step (bX2_put 2) rfl rfl (hv) ?_
  iterate 7 (refine zv_step (bX2_put 2) rfl rfl trivial ?_)
  exact zv_iret (bX2_put 2) rfl (Or.inl rfl) (Nat.zero_le _) (Nat.zero_le _) (kk _ rfl)
set_option maxHeartbeats 4000000 in
set_option maxRecDepth 20000 in
theorem pPut1 (O : Nat → Int32) (P : Nat → Nat → Int32) (Y : Nat → Nat → Int64) (g : Nat → zC) (hu : (O 1).toInt ≤ 120) {m : Nat} (hm : m < 120) (hmu : O 1 = nI m) (k v x y : Int32) : zK 2 zX2_put [.ref 1, .int k, .int v, .int x, .int y] (wX O P Y g) (fun r w' => r = some (.int (O 1)) ∧ ∃ sh ch le ca, ch = hbW (Int16.ofInt 764).toInt32 k ∧ le = (if k = 0 then Int32.ofInt 1 <<< (v &&& 31) else Int32.ofInt 0) ∧ ca = (if k = c8 9 then Int32.ofInt 1 <<< (v &&& 31) else Int32.ofInt 0) ∧ sh = faW 1 (O 1) (adI 1 (O 1) (adI 1 (O 1) (putV 1 P (nC (O 1)) k v x y (owW k v) ch le ca) (nC (O 1)) x) (nC (O 1)) y) m m 0 ∧ w' = wX (upd O 1 (O 1 + Int32.ofInt 1)) (updA (adI 1 (O 1) (adI 1 (O 1) (putV 1 P (nC (O 1)) k v x y (owW k v) ch le ca) (nC (O 1)) x) (nC (O 1)) y) 12 (upd ((adI 1 (O 1) (adI 1 (O 1) (putV 1 P (nC (O 1)) k v x y (owW k v) ch le ca) (nC (O 1)) x) (nC (O 1)) y) 12) (nC (O 1)) sh)) Y g) := by
  have hv : vp_in (O 1) 120 := by rw [hmu]; exact vp_in_nI hm (by decide)
  refine zK_of qX2_put (by decide +kernel) rfl ?_
  iterate 1 (refine zv_step (bX2_put 2) rfl rfl trivial ?_)
  refine zv_V0 (bX2_put 2) rfl rfl rfl rfl rfl rfl rfl ⟨rfl, rfl, rfl⟩ ⟨by decide, by decide⟩ ⟨Nat.zero_le _, Nat.zero_le _⟩ (pFull1 O P Y g) ?_
  rintro _ _ ⟨rfl, ⟨hf, rfl⟩ | ⟨hf, rfl⟩⟩
  · rw [hmu, nI_toInt (by omega)] at hf
    omega
  · iterate 1 (refine zv_step (bX2_put 2) rfl rfl trivial ?_)
    refine zv_ift (by decide) ?_
    iterate 7 (refine zv_step (bX2_put 2) rfl rfl trivial ?_)
    refine zv_step (bX2_put 2) rfl rfl (hv) ?_
    refine zv_world (show _ = wX O (updA P 2 (upd (P 2) (nC (O 1)) k)) Y g from rfl) ?_
    iterate 4 (refine zv_step (bX2_put 2) rfl rfl trivial ?_)
    refine zv_step (bX2_put 2) rfl rfl (hv) ?_
    refine zv_world (show _ = wX O (updA (updA P 2 (upd (P 2) (nC (O 1)) k)) 3 (upd (P 3) (nC (O 1)) v)) Y g from rfl) ?_
    iterate 4 (refine zv_step (bX2_put 2) rfl rfl trivial ?_)
    refine zv_step (bX2_put 2) rfl rfl (hv) ?_
    refine zv_world (show _ = wX O (updA (updA (updA P 2 (upd (P 2) (nC (O 1)) k)) 3 (upd (P 3) (nC (O 1)) v)) 4 (upd (P 4) (nC (O 1)) x)) Y g from rfl) ?_
    iterate 4 (refine zv_step (bX2_put 2) rfl rfl trivial ?_)
    refine zv_step (bX2_put 2) rfl rfl (hv) ?_
    refine zv_world (show _ = wX O (updA (updA (updA (updA P 2 (upd (P 2) (nC (O 1)) k)) 3 (upd (P 3) (nC (O 1)) v)) 4 (upd (P 4) (nC (O 1)) x)) 5 (upd (P 5) (nC (O 1)) y)) Y g from rfl) ?_
    iterate 4 (refine zv_step (bX2_put 2) rfl rfl trivial ?_)
    refine zv_step (bX2_put 2) rfl rfl (hv) ?_
    refine zv_world (show _ = wX O (updA (updA (updA (updA (updA P 2 (upd (P 2) (nC (O 1)) k)) 3 (upd (P 3) (nC (O 1)) v)) 4 (upd (P 4) (nC (O 1)) x)) 5 (upd (P 5) (nC (O 1)) y)) 6 (upd (P 6) (nC (O 1)) (Int32.ofInt 1))) Y g from rfl) ?_
    iterate 4 (refine zv_step (bX2_put 2) rfl rfl trivial ?_)
    refine zv_step (bX2_put 2) rfl rfl (hv) ?_
    refine zv_world (show _ = wX O (updA (updA (updA (updA (updA (updA P 2 (upd (P 2) (nC (O 1)) k)) 3 (upd (P 3) (nC (O 1)) v)) 4 (upd (P 4) (nC (O 1)) x)) 5 (upd (P 5) (nC (O 1)) y)) 6 (upd (P 6) (nC (O 1)) (Int32.ofInt 1))) 7 (upd (P 7) (nC (O 1)) (Int32.ofInt 1))) Y g from rfl) ?_
    iterate 5 (refine zv_step (bX2_put 2) rfl rfl trivial ?_)
    refine zv_S2 (bX2_put 2) rfl rfl rfl rfl ⟨rfl, rfl, rfl⟩ ⟨by decide, by decide⟩ ⟨Nat.zero_le _, Nat.zero_le _⟩ (pOwn _ _ _) ?_
    rintro _ _ ⟨rfl, rfl⟩
    refine zv_step (bX2_put 2) rfl rfl (hv) ?_
    refine zv_world (show _ = wX O (updA (updA (updA (updA (updA (updA (updA P 2 (upd (P 2) (nC (O 1)) k)) 3 (upd (P 3) (nC (O 1)) v)) 4 (upd (P 4) (nC (O 1)) x)) 5 (upd (P 5) (nC (O 1)) y)) 6 (upd (P 6) (nC (O 1)) (Int32.ofInt 1))) 7 (upd (P 7) (nC (O 1)) (Int32.ofInt 1))) 8 (upd (P 8) (nC (O 1)) (owW k v))) Y g from rfl) ?_
    iterate 5 (refine zv_step (bX2_put 2) rfl rfl trivial ?_)
    refine zv_S2 (bX2_put 2) rfl rfl rfl rfl ⟨rfl, rfl, rfl⟩ ⟨by decide, by decide⟩ ⟨Nat.zero_le _, Nat.zero_le _⟩ (pHasBit _ _ _) ?_
    rintro _ _ ⟨rfl, ⟨hB, rfl⟩ | ⟨hB, rfl⟩⟩
    · iterate 1 (refine zv_step (bX2_put 2) rfl rfl trivial ?_)
      refine zv_ift (by decide) ?_
      iterate 1 (refine zv_step (bX2_put 2) rfl rfl trivial ?_)
      refine zv_step (bX2_put 2) rfl rfl (hv) ?_
      refine zv_world (show _ = wX O (updA (updA (updA (updA (updA (updA (updA (updA P 2 (upd (P 2) (nC (O 1)) k)) 3 (upd (P 3) (nC (O 1)) v)) 4 (upd (P 4) (nC (O 1)) x)) 5 (upd (P 5) (nC (O 1)) y)) 6 (upd (P 6) (nC (O 1)) (Int32.ofInt 1))) 7 (upd (P 7) (nC (O 1)) (Int32.ofInt 1))) 8 (upd (P 8) (nC (O 1)) (owW k v))) 9 (upd (P 9) (nC (O 1)) (Int32.ofInt 0))) Y g from rfl) ?_
      iterate 5 (refine zv_step (bX2_put 2) rfl rfl trivial ?_)
      refine zv_ifb (fun h0 => ?_) (fun h0 => ?_)
      · iterate 1 (refine zv_step (bX2_put 2) rfl rfl trivial ?_)
        refine zv_step (bX2_put 2) rfl rfl (hv) ?_
        refine zv_world (show _ = wX O (updA (updA (updA (updA (updA (updA (updA (updA (updA P 2 (upd (P 2) (nC (O 1)) k)) 3 (upd (P 3) (nC (O 1)) v)) 4 (upd (P 4) (nC (O 1)) x)) 5 (upd (P 5) (nC (O 1)) y)) 6 (upd (P 6) (nC (O 1)) (Int32.ofInt 1))) 7 (upd (P 7) (nC (O 1)) (Int32.ofInt 1))) 8 (upd (P 8) (nC (O 1)) (owW k v))) 9 (upd (P 9) (nC (O 1)) (Int32.ofInt 0))) 10 (upd (P 10) (nC (O 1)) (Int32.ofInt 0))) Y g from rfl) ?_
        iterate 6 (refine zv_step (bX2_put 2) rfl rfl trivial ?_)
        refine zv_ifb (fun h9 => ?_) (fun h9 => ?_)
        · iterate 1 (refine zv_step (bX2_put 2) rfl rfl trivial ?_)
          refine zv_step (bX2_put 2) rfl rfl (hv) ?_
          refine zv_world (show _ = wX O (updA (updA (updA (updA (updA (updA (updA (updA (updA (updA P 2 (upd (P 2) (nC (O 1)) k)) 3 (upd (P 3) (nC (O 1)) v)) 4 (upd (P 4) (nC (O 1)) x)) 5 (upd (P 5) (nC (O 1)) y)) 6 (upd (P 6) (nC (O 1)) (Int32.ofInt 1))) 7 (upd (P 7) (nC (O 1)) (Int32.ofInt 1))) 8 (upd (P 8) (nC (O 1)) (owW k v))) 9 (upd (P 9) (nC (O 1)) (Int32.ofInt 0))) 10 (upd (P 10) (nC (O 1)) (Int32.ofInt 0))) 11 (upd (P 11) (nC (O 1)) (Int32.ofInt 0))) Y g from rfl) ?_
          exact pPutL1 O P Y g hu hm hmu k v x y (owW k v) (Int32.ofInt 0) (Int32.ofInt 0) (Int32.ofInt 0) (fun sh hsh => ⟨rfl, sh, _, _, _, by unfold hbW; rw [if_pos hB], by rw [if_neg h0], by rw [if_neg h9], hsh, rfl⟩)
        · iterate 4 (refine zv_step (bX2_put 2) rfl rfl trivial ?_)
          refine zv_step (bX2_put 2) rfl rfl (hv) ?_
          refine zv_world (show _ = wX O (updA (updA (updA (updA (updA (updA (updA (updA (updA (updA P 2 (upd (P 2) (nC (O 1)) k)) 3 (upd (P 3) (nC (O 1)) v)) 4 (upd (P 4) (nC (O 1)) x)) 5 (upd (P 5) (nC (O 1)) y)) 6 (upd (P 6) (nC (O 1)) (Int32.ofInt 1))) 7 (upd (P 7) (nC (O 1)) (Int32.ofInt 1))) 8 (upd (P 8) (nC (O 1)) (owW k v))) 9 (upd (P 9) (nC (O 1)) (Int32.ofInt 0))) 10 (upd (P 10) (nC (O 1)) (Int32.ofInt 0))) 11 (upd (P 11) (nC (O 1)) (Int32.ofInt 1 <<< (v &&& 31)))) Y g from rfl) ?_
          exact pPutL1 O P Y g hu hm hmu k v x y (owW k v) (Int32.ofInt 0) (Int32.ofInt 0) (Int32.ofInt 1 <<< (v &&& 31)) (fun sh hsh => ⟨rfl, sh, _, _, _, by unfold hbW; rw [if_pos hB], by rw [if_neg h0], by rw [if_pos (Decidable.not_not.mp h9)], hsh, rfl⟩)
      · iterate 4 (refine zv_step (bX2_put 2) rfl rfl trivial ?_)
        refine zv_step (bX2_put 2) rfl rfl (hv) ?_
        refine zv_world (show _ = wX O (updA (updA (updA (updA (updA (updA (updA (updA (updA P 2 (upd (P 2) (nC (O 1)) k)) 3 (upd (P 3) (nC (O 1)) v)) 4 (upd (P 4) (nC (O 1)) x)) 5 (upd (P 5) (nC (O 1)) y)) 6 (upd (P 6) (nC (O 1)) (Int32.ofInt 1))) 7 (upd (P 7) (nC (O 1)) (Int32.ofInt 1))) 8 (upd (P 8) (nC (O 1)) (owW k v))) 9 (upd (P 9) (nC (O 1)) (Int32.ofInt 0))) 10 (upd (P 10) (nC (O 1)) (Int32.ofInt 1 <<< (v &&& 31)))) Y g from rfl) ?_
        iterate 6 (refine zv_step (bX2_put 2) rfl rfl trivial ?_)
        refine zv_ifb (fun h9 => ?_) (fun h9 => ?_)
        · iterate 1 (refine zv_step (bX2_put 2) rfl rfl trivial ?_)
          refine zv_step (bX2_put 2) rfl rfl (hv) ?_
          refine zv_world (show _ = wX O (updA (updA (updA (updA (updA (updA (updA (updA (updA (updA P 2 (upd (P 2) (nC (O 1)) k)) 3 (upd (P 3) (nC (O 1)) v)) 4 (upd (P 4) (nC (O 1)) x)) 5 (upd (P 5) (nC (O 1)) y)) 6 (upd (P 6) (nC (O 1)) (Int32.ofInt 1))) 7 (upd (P 7) (nC (O 1)) (Int32.ofInt 1))) 8 (upd (P 8) (nC (O 1)) (owW k v))) 9 (upd (P 9) (nC (O 1)) (Int32.ofInt 0))) 10 (upd (P 10) (nC (O 1)) (Int32.ofInt 1 <<< (v &&& 31)))) 11 (upd (P 11) (nC (O 1)) (Int32.ofInt 0))) Y g from rfl) ?_
          exact pPutL1 O P Y g hu hm hmu k v x y (owW k v) (Int32.ofInt 0) (Int32.ofInt 1 <<< (v &&& 31)) (Int32.ofInt 0) (fun sh hsh => ⟨rfl, sh, _, _, _, by unfold hbW; rw [if_pos hB], by rw [if_pos (Decidable.not_not.mp h0)], by rw [if_neg h9], hsh, rfl⟩)
        · iterate 4 (refine zv_step (bX2_put 2) rfl rfl trivial ?_)
          refine zv_step (bX2_put 2) rfl rfl (hv) ?_
          refine zv_world (show _ = wX O (updA (updA (updA (updA (updA (updA (updA (updA (updA (updA P 2 (upd (P 2) (nC (O 1)) k)) 3 (upd (P 3) (nC (O 1)) v)) 4 (upd (P 4) (nC (O 1)) x)) 5 (upd (P 5) (nC (O 1)) y)) 6 (upd (P 6) (nC (O 1)) (Int32.ofInt 1))) 7 (upd (P 7) (nC (O 1)) (Int32.ofInt 1))) 8 (upd (P 8) (nC (O 1)) (owW k v))) 9 (upd (P 9) (nC (O 1)) (Int32.ofInt 0))) 10 (upd (P 10) (nC (O 1)) (Int32.ofInt 1 <<< (v &&& 31)))) 11 (upd (P 11) (nC (O 1)) (Int32.ofInt 1 <<< (v &&& 31)))) Y g from rfl) ?_
          exact pPutL1 O P Y g hu hm hmu k v x y (owW k v) (Int32.ofInt 0) (Int32.ofInt 1 <<< (v &&& 31)) (Int32.ofInt 1 <<< (v &&& 31)) (fun sh hsh => ⟨rfl, sh, _, _, _, by unfold hbW; rw [if_pos hB], by rw [if_pos (Decidable.not_not.mp h0)], by rw [if_pos (Decidable.not_not.mp h9)], hsh, rfl⟩)
    · iterate 1 (refine zv_step (bX2_put 2) rfl rfl trivial ?_)
      refine zv_iff (by decide) ?_
      iterate 2 (refine zv_step (bX2_put 2) rfl rfl trivial ?_)
      refine zv_step (bX2_put 2) rfl rfl (hv) ?_
      refine zv_world (show _ = wX O (updA (updA (updA (updA (updA (updA (updA (updA P 2 (upd (P 2) (nC (O 1)) k)) 3 (upd (P 3) (nC (O 1)) v)) 4 (upd (P 4) (nC (O 1)) x)) 5 (upd (P 5) (nC (O 1)) y)) 6 (upd (P 6) (nC (O 1)) (Int32.ofInt 1))) 7 (upd (P 7) (nC (O 1)) (Int32.ofInt 1))) 8 (upd (P 8) (nC (O 1)) (owW k v))) 9 (upd (P 9) (nC (O 1)) (Int32.ofInt 1))) Y g from rfl) ?_
      iterate 5 (refine zv_step (bX2_put 2) rfl rfl trivial ?_)
      refine zv_ifb (fun h0 => ?_) (fun h0 => ?_)
      · iterate 1 (refine zv_step (bX2_put 2) rfl rfl trivial ?_)
        refine zv_step (bX2_put 2) rfl rfl (hv) ?_
        refine zv_world (show _ = wX O (updA (updA (updA (updA (updA (updA (updA (updA (updA P 2 (upd (P 2) (nC (O 1)) k)) 3 (upd (P 3) (nC (O 1)) v)) 4 (upd (P 4) (nC (O 1)) x)) 5 (upd (P 5) (nC (O 1)) y)) 6 (upd (P 6) (nC (O 1)) (Int32.ofInt 1))) 7 (upd (P 7) (nC (O 1)) (Int32.ofInt 1))) 8 (upd (P 8) (nC (O 1)) (owW k v))) 9 (upd (P 9) (nC (O 1)) (Int32.ofInt 1))) 10 (upd (P 10) (nC (O 1)) (Int32.ofInt 0))) Y g from rfl) ?_
        iterate 6 (refine zv_step (bX2_put 2) rfl rfl trivial ?_)
        refine zv_ifb (fun h9 => ?_) (fun h9 => ?_)
        · iterate 1 (refine zv_step (bX2_put 2) rfl rfl trivial ?_)
          refine zv_step (bX2_put 2) rfl rfl (hv) ?_
          refine zv_world (show _ = wX O (updA (updA (updA (updA (updA (updA (updA (updA (updA (updA P 2 (upd (P 2) (nC (O 1)) k)) 3 (upd (P 3) (nC (O 1)) v)) 4 (upd (P 4) (nC (O 1)) x)) 5 (upd (P 5) (nC (O 1)) y)) 6 (upd (P 6) (nC (O 1)) (Int32.ofInt 1))) 7 (upd (P 7) (nC (O 1)) (Int32.ofInt 1))) 8 (upd (P 8) (nC (O 1)) (owW k v))) 9 (upd (P 9) (nC (O 1)) (Int32.ofInt 1))) 10 (upd (P 10) (nC (O 1)) (Int32.ofInt 0))) 11 (upd (P 11) (nC (O 1)) (Int32.ofInt 0))) Y g from rfl) ?_
          exact pPutL1 O P Y g hu hm hmu k v x y (owW k v) (Int32.ofInt 1) (Int32.ofInt 0) (Int32.ofInt 0) (fun sh hsh => ⟨rfl, sh, _, _, _, by unfold hbW; rw [if_neg hB], by rw [if_neg h0], by rw [if_neg h9], hsh, rfl⟩)
        · iterate 4 (refine zv_step (bX2_put 2) rfl rfl trivial ?_)
          refine zv_step (bX2_put 2) rfl rfl (hv) ?_
          refine zv_world (show _ = wX O (updA (updA (updA (updA (updA (updA (updA (updA (updA (updA P 2 (upd (P 2) (nC (O 1)) k)) 3 (upd (P 3) (nC (O 1)) v)) 4 (upd (P 4) (nC (O 1)) x)) 5 (upd (P 5) (nC (O 1)) y)) 6 (upd (P 6) (nC (O 1)) (Int32.ofInt 1))) 7 (upd (P 7) (nC (O 1)) (Int32.ofInt 1))) 8 (upd (P 8) (nC (O 1)) (owW k v))) 9 (upd (P 9) (nC (O 1)) (Int32.ofInt 1))) 10 (upd (P 10) (nC (O 1)) (Int32.ofInt 0))) 11 (upd (P 11) (nC (O 1)) (Int32.ofInt 1 <<< (v &&& 31)))) Y g from rfl) ?_
          exact pPutL1 O P Y g hu hm hmu k v x y (owW k v) (Int32.ofInt 1) (Int32.ofInt 0) (Int32.ofInt 1 <<< (v &&& 31)) (fun sh hsh => ⟨rfl, sh, _, _, _, by unfold hbW; rw [if_neg hB], by rw [if_neg h0], by rw [if_pos (Decidable.not_not.mp h9)], hsh, rfl⟩)
      · iterate 4 (refine zv_step (bX2_put 2) rfl rfl trivial ?_)
        refine zv_step (bX2_put 2) rfl rfl (hv) ?_
        refine zv_world (show _ = wX O (updA (updA (updA (updA (updA (updA (updA (updA (updA P 2 (upd (P 2) (nC (O 1)) k)) 3 (upd (P 3) (nC (O 1)) v)) 4 (upd (P 4) (nC (O 1)) x)) 5 (upd (P 5) (nC (O 1)) y)) 6 (upd (P 6) (nC (O 1)) (Int32.ofInt 1))) 7 (upd (P 7) (nC (O 1)) (Int32.ofInt 1))) 8 (upd (P 8) (nC (O 1)) (owW k v))) 9 (upd (P 9) (nC (O 1)) (Int32.ofInt 1))) 10 (upd (P 10) (nC (O 1)) (Int32.ofInt 1 <<< (v &&& 31)))) Y g from rfl) ?_
        iterate 6 (refine zv_step (bX2_put 2) rfl rfl trivial ?_)
        refine zv_ifb (fun h9 => ?_) (fun h9 => ?_)
        · iterate 1 (refine zv_step (bX2_put 2) rfl rfl trivial ?_)
          refine zv_step (bX2_put 2) rfl rfl (hv) ?_
          refine zv_world (show _ = wX O (updA (updA (updA (updA (updA (updA (updA (updA (updA (updA P 2 (upd (P 2) (nC (O 1)) k)) 3 (upd (P 3) (nC (O 1)) v)) 4 (upd (P 4) (nC (O 1)) x)) 5 (upd (P 5) (nC (O 1)) y)) 6 (upd (P 6) (nC (O 1)) (Int32.ofInt 1))) 7 (upd (P 7) (nC (O 1)) (Int32.ofInt 1))) 8 (upd (P 8) (nC (O 1)) (owW k v))) 9 (upd (P 9) (nC (O 1)) (Int32.ofInt 1))) 10 (upd (P 10) (nC (O 1)) (Int32.ofInt 1 <<< (v &&& 31)))) 11 (upd (P 11) (nC (O 1)) (Int32.ofInt 0))) Y g from rfl) ?_
          exact pPutL1 O P Y g hu hm hmu k v x y (owW k v) (Int32.ofInt 1) (Int32.ofInt 1 <<< (v &&& 31)) (Int32.ofInt 0) (fun sh hsh => ⟨rfl, sh, _, _, _, by unfold hbW; rw [if_neg hB], by rw [if_pos (Decidable.not_not.mp h0)], by rw [if_neg h9], hsh, rfl⟩)
        · iterate 4 (refine zv_step (bX2_put 2) rfl rfl trivial ?_)
          refine zv_step (bX2_put 2) rfl rfl (hv) ?_
          refine zv_world (show _ = wX O (updA (updA (updA (updA (updA (updA (updA (updA (updA (updA P 2 (upd (P 2) (nC (O 1)) k)) 3 (upd (P 3) (nC (O 1)) v)) 4 (upd (P 4) (nC (O 1)) x)) 5 (upd (P 5) (nC (O 1)) y)) 6 (upd (P 6) (nC (O 1)) (Int32.ofInt 1))) 7 (upd (P 7) (nC (O 1)) (Int32.ofInt 1))) 8 (upd (P 8) (nC (O 1)) (owW k v))) 9 (upd (P 9) (nC (O 1)) (Int32.ofInt 1))) 10 (upd (P 10) (nC (O 1)) (Int32.ofInt 1 <<< (v &&& 31)))) 11 (upd (P 11) (nC (O 1)) (Int32.ofInt 1 <<< (v &&& 31)))) Y g from rfl) ?_
          exact pPutL1 O P Y g hu hm hmu k v x y (owW k v) (Int32.ofInt 1) (Int32.ofInt 1 <<< (v &&& 31)) (Int32.ofInt 1 <<< (v &&& 31)) (fun sh hsh => ⟨rfl, sh, _, _, _, by unfold hbW; rw [if_neg hB], by rw [if_pos (Decidable.not_not.mp h0)], by rw [if_pos (Decidable.not_not.mp h9)], hsh, rfl⟩)
end
section
set_option maxHeartbeats 1000000 in
set_option maxRecDepth 20000 in
theorem pHas14 (O : Nat → Int32) (P : Nat → Nat → Int32) (Y : Nat → Nat → Int64) (g : Nat → zC) (x : Int32) : zK 0 zX2_has [.ref 14, .int x] (wX O P Y g) (fun r w' => w' = wX O P Y g ∧ (((0 ≤ x.toInt ∧ x.toInt < (O 2).toInt) ∧ r = some (.int 1)) ∨ (¬ (0 ≤ x.toInt ∧ x.toInt < (O 2).toInt) ∧ r = some (.int 0)))) := by
  refine zK_of qX2_has (by decide +kernel) rfl ?_
  iterate 2 (refine zv_step (bX2_has 0) rfl rfl trivial ?_)
  refine zv_ifb (fun hc => ?_) (fun hc => ?_)
  · rw [Int32.lt_iff_toInt_lt, Int32.toInt_zero] at hc
    iterate 1 (refine zv_step (bX2_has 0) rfl rfl trivial ?_)
    exact zv_iret (bX2_has 0) rfl (Or.inr ⟨rfl, Or.inl rfl⟩) (Nat.zero_le _) (Nat.zero_le _) ⟨rfl, Or.inr ⟨by omega, rfl⟩⟩
  · rw [Int32.lt_iff_toInt_lt, Int32.toInt_zero] at hc
    iterate 4 (refine zv_step (bX2_has 0) rfl rfl trivial ?_)
    refine zv_ifb (fun hd => ?_) (fun hd => ?_)
    · have hd : O 2 ≤ x := hd
      rw [Int32.le_iff_toInt_le] at hd
      iterate 1 (refine zv_step (bX2_has 0) rfl rfl trivial ?_)
      exact zv_iret (bX2_has 0) rfl (Or.inr ⟨rfl, Or.inl rfl⟩) (Nat.zero_le _) (Nat.zero_le _) ⟨rfl, Or.inr ⟨by omega, rfl⟩⟩
    · have hd : ¬ O 2 ≤ x := hd
      rw [Int32.le_iff_toInt_le] at hd
      iterate 2 (refine zv_step (bX2_has 0) rfl rfl trivial ?_)
      exact zv_iret (bX2_has 0) rfl (Or.inr ⟨rfl, Or.inr rfl⟩) (Nat.zero_le _) (Nat.zero_le _) ⟨rfl, Or.inl ⟨by omega, rfl⟩⟩
set_option maxHeartbeats 1000000 in
set_option maxRecDepth 20000 in
theorem pFull14 (O : Nat → Int32) (P : Nat → Nat → Int32) (Y : Nat → Nat → Int64) (g : Nat → zC) : zK 0 zX2_isFull [.ref 14] (wX O P Y g) (fun r w' => w' = wX O P Y g ∧ ((120 ≤ (O 2).toInt ∧ r = some (.int 1)) ∨ (¬ 120 ≤ (O 2).toInt ∧ r = some (.int 0)))) := by
  refine zK_of qX2_isFull (by decide +kernel) rfl ?_
  iterate 4 (refine zv_step (bX2_isFull 0) rfl rfl trivial ?_)
  refine zv_ifb (fun hc => ?_) (fun hc => ?_)
  · have hc : O 2 < c8 120 := hc
    rw [Int32.lt_iff_toInt_lt, i8c 120 (by decide)] at hc
    iterate 1 (refine zv_step (bX2_isFull 0) rfl rfl trivial ?_)
    exact zv_iret (bX2_isFull 0) rfl (Or.inr ⟨rfl, Or.inl rfl⟩) (Nat.zero_le _) (Nat.zero_le _) ⟨rfl, Or.inr ⟨by omega, rfl⟩⟩
  · have hc : ¬ O 2 < c8 120 := hc
    rw [Int32.lt_iff_toInt_lt, i8c 120 (by decide)] at hc
    iterate 2 (refine zv_step (bX2_isFull 0) rfl rfl trivial ?_)
    exact zv_iret (bX2_isFull 0) rfl (Or.inr ⟨rfl, Or.inr rfl⟩) (Nat.zero_le _) (Nat.zero_le _) ⟨rfl, Or.inl ⟨by omega, rfl⟩⟩
set_option maxHeartbeats 1000000 in
set_option maxRecDepth 20000 in
theorem pPartOf14 (O : Nat → Int32) (P : Nat → Nat → Int32) (Y : Nat → Nat → Int64) (g : Nat → zC) (hu : (O 2).toInt ≤ 120) (x d : Int32) : zK 1 zX2_partOf [.ref 14, .int x, .int d] (wX O P Y g) (fun r w' => w' = wX O P Y g ∧ (((0 ≤ x.toInt ∧ x.toInt < (O 2).toInt) ∧ ((d.toInt = 1 ∧ r = some (.int (P 17 x.toNatClampNeg))) ∨ (d.toInt = 2 ∧ r = some (.int (P 18 x.toNatClampNeg))))) ∨ (¬ ((0 ≤ x.toInt ∧ x.toInt < (O 2).toInt) ∧ (d.toInt = 1 ∨ d.toInt = 2)) ∧ r = some (.int (-1))))) := by
  refine zK_of qX2_partOf (by decide +kernel) rfl ?_
  iterate 2 (refine zv_step (bX2_partOf 1) rfl rfl trivial ?_)
  refine zv_V1 (bX2_partOf 1) rfl rfl rfl rfl rfl rfl rfl ⟨rfl, rfl, rfl⟩ ⟨by decide, by decide⟩ ⟨Nat.zero_le _, Nat.zero_le _⟩ (pHas14 O P Y g _) ?_
  rintro _ _ ⟨rfl, ⟨hh, rfl⟩ | ⟨hh, rfl⟩⟩
  · iterate 1 (refine zv_step (bX2_partOf 1) rfl rfl trivial ?_)
    refine zv_iff (by decide) ?_
    iterate 3 (refine zv_step (bX2_partOf 1) rfl rfl trivial ?_)
    refine zv_ifb (fun hc => ?_) (fun hc => ?_)
    · rw [Int32.lt_iff_toInt_lt, i32c 1 (by decide)] at hc
      iterate 1 (refine zv_step (bX2_partOf 1) rfl rfl trivial ?_)
      exact zv_iret (bX2_partOf 1) rfl (Or.inl rfl) (Nat.zero_le _) (Nat.zero_le _) ⟨rfl, Or.inr ⟨by omega, rfl⟩⟩
    · rw [Int32.lt_iff_toInt_lt, i32c 1 (by decide)] at hc
      iterate 3 (refine zv_step (bX2_partOf 1) rfl rfl trivial ?_)
      refine zv_ifb (fun hd => ?_) (fun hd => ?_)
      · rw [Int32.le_iff_toInt_le, i32c 2 (by decide)] at hd
        iterate 3 (refine zv_step (bX2_partOf 1) rfl rfl trivial ?_)
        refine zv_ifb (fun he => ?_) (fun he => ?_)
        · rw [i32e _ 1 (by decide)] at he
          iterate 3 (refine zv_step (bX2_partOf 1) rfl rfl trivial ?_)
          refine zv_step (bX2_partOf 1) rfl rfl (vp_in_iff.mpr ⟨hh.1, Int.lt_of_lt_of_le hh.2 hu⟩) ?_
          exact zv_iret (bX2_partOf 1) rfl (Or.inl rfl) (Nat.zero_le _) (Nat.zero_le _) ⟨rfl, Or.inl ⟨hh, Or.inr ⟨by omega, rfl⟩⟩⟩
        · rw [i32e _ 1 (by decide)] at he
          iterate 3 (refine zv_step (bX2_partOf 1) rfl rfl trivial ?_)
          refine zv_step (bX2_partOf 1) rfl rfl (vp_in_iff.mpr ⟨hh.1, Int.lt_of_lt_of_le hh.2 hu⟩) ?_
          iterate 1 (refine zv_step (bX2_partOf 1) rfl rfl trivial ?_)
          exact zv_iret (bX2_partOf 1) rfl (Or.inl rfl) (Nat.zero_le _) (Nat.zero_le _) ⟨rfl, Or.inl ⟨hh, Or.inl ⟨by omega, rfl⟩⟩⟩
      · rw [Int32.le_iff_toInt_le, i32c 2 (by decide)] at hd
        iterate 1 (refine zv_step (bX2_partOf 1) rfl rfl trivial ?_)
        exact zv_iret (bX2_partOf 1) rfl (Or.inl rfl) (Nat.zero_le _) (Nat.zero_le _) ⟨rfl, Or.inr ⟨by omega, rfl⟩⟩
  · iterate 1 (refine zv_step (bX2_partOf 1) rfl rfl trivial ?_)
    refine zv_ift (by decide) ?_
    iterate 1 (refine zv_step (bX2_partOf 1) rfl rfl trivial ?_)
    exact zv_iret (bX2_partOf 1) rfl (Or.inl rfl) (Nat.zero_le _) (Nat.zero_le _) ⟨rfl, Or.inr ⟨by omega, rfl⟩⟩
end
section
set_option maxHeartbeats 1000000 in
set_option maxRecDepth 20000 in
theorem pTop14 (O : Nat → Int32) (P : Nat → Nat → Int32) (Y : Nat → Nat → Int64) (g : Nat → zC) {x y : Int32} (hx : vp_in x 120) (hy : vp_in y 120) : zK 0 zX2_isSameTop [.ref 14, .int x, .int y] (wX O P Y g) (fun r w' => w' = wX O P Y g ∧ (((P 15 x.toNatClampNeg = P 15 y.toNatClampNeg ∧ P 16 x.toNatClampNeg = P 16 y.toNatClampNeg) ∧ r = some (.int 1)) ∨ (¬ (P 15 x.toNatClampNeg = P 15 y.toNatClampNeg ∧ P 16 x.toNatClampNeg = P 16 y.toNatClampNeg) ∧ r = some (.int 0)))) := by
  refine zK_of qX2_isSameTop (by decide +kernel) rfl ?_
  iterate 3 (refine zv_step (bX2_isSameTop 0) rfl rfl trivial ?_)
  refine zv_step (bX2_isSameTop 0) rfl rfl (hx) ?_
  iterate 3 (refine zv_step (bX2_isSameTop 0) rfl rfl trivial ?_)
  refine zv_step (bX2_isSameTop 0) rfl rfl (hy) ?_
  iterate 1 (refine zv_step (bX2_isSameTop 0) rfl rfl trivial ?_)
  refine zv_ifb (fun hc => ?_) (fun hc => ?_)
  · iterate 1 (refine zv_step (bX2_isSameTop 0) rfl rfl trivial ?_)
    exact zv_iret (bX2_isSameTop 0) rfl (Or.inr ⟨rfl, Or.inl rfl⟩) (Nat.zero_le _) (Nat.zero_le _) ⟨rfl, Or.inr ⟨fun q => hc q.1, rfl⟩⟩
  · iterate 3 (refine zv_step (bX2_isSameTop 0) rfl rfl trivial ?_)
    refine zv_step (bX2_isSameTop 0) rfl rfl (hx) ?_
    iterate 3 (refine zv_step (bX2_isSameTop 0) rfl rfl trivial ?_)
    refine zv_step (bX2_isSameTop 0) rfl rfl (hy) ?_
    iterate 1 (refine zv_step (bX2_isSameTop 0) rfl rfl trivial ?_)
    refine zv_ifb (fun hd => ?_) (fun hd => ?_)
    · iterate 1 (refine zv_step (bX2_isSameTop 0) rfl rfl trivial ?_)
      exact zv_iret (bX2_isSameTop 0) rfl (Or.inr ⟨rfl, Or.inl rfl⟩) (Nat.zero_le _) (Nat.zero_le _) ⟨rfl, Or.inr ⟨fun q => hd q.2, rfl⟩⟩
    · iterate 2 (refine zv_step (bX2_isSameTop 0) rfl rfl trivial ?_)
      exact zv_iret (bX2_isSameTop 0) rfl (Or.inr ⟨rfl, Or.inr rfl⟩) (Nat.zero_le _) (Nat.zero_le _) ⟨rfl, Or.inl ⟨⟨Decidable.not_not.mp hc, Decidable.not_not.mp hd⟩, rfl⟩⟩
set_option maxHeartbeats 1000000 in
set_option maxRecDepth 20000 in
theorem pShape14 (O : Nat → Int32) (P : Nat → Nat → Int32) (Y : Nat → Nat → Int64) (g : Nat → zC) (hu : (O 2).toInt ≤ 120) (x : Int32) : zK 0 zX2_shapeOf [.ref 14, .int x] (wX O P Y g) (fun r w' => w' = wX O P Y g ∧ (((0 ≤ x.toInt ∧ x.toInt < (O 2).toInt) ∧ r = some (.int (P 25 x.toNatClampNeg))) ∨ (¬ (0 ≤ x.toInt ∧ x.toInt < (O 2).toInt) ∧ r = some (.int (Int32.ofInt (-1)))))) := by
  refine zK_of qX2_shapeOf (by decide +kernel) rfl ?_
  iterate 2 (refine zv_step (bX2_shapeOf 0) rfl rfl trivial ?_)
  refine zv_ifb (fun hc => ?_) (fun hc => ?_)
  · rw [Int32.lt_iff_toInt_lt, Int32.toInt_zero] at hc
    iterate 2 (refine zv_step (bX2_shapeOf 0) rfl rfl trivial ?_)
    exact zv_iret (bX2_shapeOf 0) rfl (Or.inl rfl) (Nat.zero_le _) (Nat.zero_le _) ⟨rfl, Or.inr ⟨by omega, rfl⟩⟩
  · rw [Int32.lt_iff_toInt_lt, Int32.toInt_zero] at hc
    iterate 4 (refine zv_step (bX2_shapeOf 0) rfl rfl trivial ?_)
    refine zv_ifb (fun hd => ?_) (fun hd => ?_)
    · have hd : x < O 2 := hd
      rw [Int32.lt_iff_toInt_lt] at hd
      iterate 3 (refine zv_step (bX2_shapeOf 0) rfl rfl trivial ?_)
      refine zv_step (bX2_shapeOf 0) rfl rfl (vp_in_iff.mpr ⟨by omega, by omega⟩) ?_
      exact zv_iret (bX2_shapeOf 0) rfl (Or.inl rfl) (Nat.zero_le _) (Nat.zero_le _) ⟨rfl, Or.inl ⟨by omega, rfl⟩⟩
    · have hd : ¬ x < O 2 := hd
      rw [Int32.lt_iff_toInt_lt] at hd
      iterate 2 (refine zv_step (bX2_shapeOf 0) rfl rfl trivial ?_)
      exact zv_iret (bX2_shapeOf 0) rfl (Or.inl rfl) (Nat.zero_le _) (Nat.zero_le _) ⟨rfl, Or.inr ⟨by omega, rfl⟩⟩
end
section
set_option maxHeartbeats 1000000 in
set_option maxRecDepth 20000 in
theorem pAdd14 (O : Nat → Int32) (P : Nat → Nat → Int32) (Y : Nat → Nat → Int64) (g : Nat → zC) (hu : (O 2).toInt ≤ 120) {n x : Int32} (hn : vp_in n 120) : zK 1 zX2_addPart [.ref 14, .int n, .int x] (wX O P Y g) (fun r w' => r = none ∧ w' = wX O (adI 14 (O 2) P (nC n) x) Y g) := by
  refine zK_of qX2_addPart (by decide +kernel) rfl ?_
  iterate 2 (refine zv_step (bX2_addPart 1) rfl rfl trivial ?_)
  refine zv_V1 (bX2_addPart 1) rfl rfl rfl rfl rfl rfl rfl ⟨rfl, rfl, rfl⟩ ⟨by decide, by decide⟩ ⟨Nat.zero_le _, Nat.zero_le _⟩ (pHas14 O P Y g _) ?_
  rintro _ _ ⟨rfl, ⟨hh, rfl⟩ | ⟨hh, rfl⟩⟩
  · iterate 1 (refine zv_step (bX2_addPart 1) rfl rfl trivial ?_)
    refine zv_ift (by decide) ?_
    iterate 4 (refine zv_step (bX2_addPart 1) rfl rfl trivial ?_)
    refine zv_step (bX2_addPart 1) rfl rfl (hn) ?_
    iterate 3 (refine zv_step (bX2_addPart 1) rfl rfl trivial ?_)
    refine zv_step (bX2_addPart 1) rfl rfl (vp_in_iff.mpr ⟨hh.1, Int.lt_of_lt_of_le hh.2 hu⟩) ?_
    iterate 1 (refine zv_step (bX2_addPart 1) rfl rfl trivial ?_)
    refine zv_step (bX2_addPart 1) rfl rfl (hn) ?_
    iterate 6 (refine zv_step (bX2_addPart 1) rfl rfl trivial ?_)
    refine zv_step (bX2_addPart 1) rfl rfl (hn) ?_
    iterate 4 (refine zv_step (bX2_addPart 1) rfl rfl trivial ?_)
    refine zv_step (bX2_addPart 1) rfl rfl (vp_in_iff.mpr ⟨hh.1, Int.lt_of_lt_of_le hh.2 hu⟩) ?_
    iterate 1 (refine zv_step (bX2_addPart 1) rfl rfl trivial ?_)
    refine zv_maxI (bX2_addPart 1) rfl zMaxI rfl ⟨by decide, by decide⟩ ⟨Nat.zero_le _, Nat.zero_le _⟩ ?_
    refine zv_step (bX2_addPart 1) rfl rfl (hn) ?_
    iterate 4 (refine zv_step (bX2_addPart 1) rfl rfl trivial ?_)
    refine zv_step (bX2_addPart 1) rfl rfl (hn) ?_
    iterate 3 (refine zv_step (bX2_addPart 1) rfl rfl trivial ?_)
    refine zv_step (bX2_addPart 1) rfl rfl (vp_in_iff.mpr ⟨hh.1, Int.lt_of_lt_of_le hh.2 hu⟩) ?_
    iterate 1 (refine zv_step (bX2_addPart 1) rfl rfl trivial ?_)
    refine zv_step (bX2_addPart 1) rfl rfl (hn) ?_
    iterate 4 (refine zv_step (bX2_addPart 1) rfl rfl trivial ?_)
    refine zv_step (bX2_addPart 1) rfl rfl (hn) ?_
    iterate 3 (refine zv_step (bX2_addPart 1) rfl rfl trivial ?_)
    refine zv_step (bX2_addPart 1) rfl rfl (vp_in_iff.mpr ⟨hh.1, Int.lt_of_lt_of_le hh.2 hu⟩) ?_
    iterate 1 (refine zv_step (bX2_addPart 1) rfl rfl trivial ?_)
    refine zv_step (bX2_addPart 1) rfl rfl (hn) ?_
    iterate 4 (refine zv_step (bX2_addPart 1) rfl rfl trivial ?_)
    refine zv_step (bX2_addPart 1) rfl rfl (hn) ?_
    iterate 3 (refine zv_step (bX2_addPart 1) rfl rfl trivial ?_)
    refine zv_step (bX2_addPart 1) rfl rfl (vp_in_iff.mpr ⟨hh.1, Int.lt_of_lt_of_le hh.2 hu⟩) ?_
    iterate 1 (refine zv_step (bX2_addPart 1) rfl rfl trivial ?_)
    refine zv_step (bX2_addPart 1) rfl rfl (hn) ?_
    iterate 4 (refine zv_step (bX2_addPart 1) rfl rfl trivial ?_)
    refine zv_step (bX2_addPart 1) rfl rfl (hn) ?_
    iterate 3 (refine zv_step (bX2_addPart 1) rfl rfl trivial ?_)
    refine zv_step (bX2_addPart 1) rfl rfl (vp_in_iff.mpr ⟨hh.1, Int.lt_of_lt_of_le hh.2 hu⟩) ?_
    iterate 1 (refine zv_step (bX2_addPart 1) rfl rfl trivial ?_)
    refine zv_step (bX2_addPart 1) rfl rfl (hn) ?_
    exact zv_ret (bX2_addPart 1) rfl rfl (Nat.zero_le _) (Nat.zero_le _) ⟨rfl, by unfold adI; rw [if_pos hh]; rfl⟩
  · iterate 1 (refine zv_step (bX2_addPart 1) rfl rfl trivial ?_)
    refine zv_iff (by decide) ?_
    exact zv_ret (bX2_addPart 1) rfl rfl (Nat.zero_le _) (Nat.zero_le _) ⟨rfl, by unfold adI; rw [if_neg hh]⟩
set_option maxHeartbeats 1000000 in
set_option maxRecDepth 20000 in
theorem pFirstL14 (O : Nat → Int32) (P : Nat → Nat → Int32) (Y : Nat → Nat → Int64) (g : Nat → zC) (hu : (O 2).toInt ≤ 120) {n : Nat} (hn : n < 120) {n0 : Nat} : ∀ (c m : Nat), m + c = n → ∀ {x2 : Int32}, x2 = nI m → zV (zMo 1 zX2_firstAlike) false n0 0 0 2 [(2, .int x2), (0, .ref 14), (1, .int (nI n))] [] (wX O P Y g) (fun r w' => w' = wX O P Y g ∧ r = some (.int (faW 14 (O 2) P n c m))) := by
  intro c
  induction c with
  | zero =>
    intro m hm x2 e2
    subst e2
    iterate 3 (refine zv_step (bX2_firstAlike 1) rfl rfl trivial ?_)
    refine zv_ift (nI_le (by omega) (by omega)) ?_
    iterate 1 (refine zv_step (bX2_firstAlike 1) rfl rfl trivial ?_)
    exact zv_iret (bX2_firstAlike 1) rfl (Or.inl rfl) (Nat.zero_le _) (Nat.zero_le _) ⟨rfl, rfl⟩
  | succ c ih =>
    intro m hm x2 e2
    subst e2
    iterate 3 (refine zv_step (bX2_firstAlike 1) rfl rfl trivial ?_)
    refine zv_iff (nI_ge (by omega) (by omega)) ?_
    iterate 3 (refine zv_step (bX2_firstAlike 1) rfl rfl trivial ?_)
    refine zv_V2 (bX2_firstAlike 1) rfl rfl rfl rfl rfl rfl rfl ⟨rfl, rfl, rfl⟩ ⟨by decide, by decide⟩ ⟨Nat.zero_le _, Nat.zero_le _⟩ (pTop14 O P Y g (vp_in_nI (n := m) (by omega) (by decide)) (vp_in_nI (n := n) (by omega) (by decide))) ?_
    rintro _ _ ⟨rfl, ⟨ht, rfl⟩ | ⟨ht, rfl⟩⟩
    · iterate 1 (refine zv_step (bX2_firstAlike 1) rfl rfl trivial ?_)
      refine zv_iff (by decide) ?_
      iterate 4 (refine zv_step (bX2_firstAlike 1) rfl rfl trivial ?_)
      refine zv_step (bX2_firstAlike 1) rfl rfl (vp_in_nI (n := m) (by omega) (by decide)) ?_
      refine zv_V1 (bX2_firstAlike 1) rfl rfl rfl rfl rfl rfl rfl ⟨rfl, rfl, rfl⟩ ⟨by decide, by decide⟩ ⟨Nat.zero_le _, Nat.zero_le _⟩ (pShape14 O P Y g hu _) ?_
      intro r1 w1 hq1
      obtain ⟨rfl, h1⟩ := hq1
      obtain rfl := shq_of h1
      iterate 4 (refine zv_step (bX2_firstAlike 1) rfl rfl trivial ?_)
      refine zv_step (bX2_firstAlike 1) rfl rfl (vp_in_nI (n := n) (by omega) (by decide)) ?_
      refine zv_V1 (bX2_firstAlike 1) rfl rfl rfl rfl rfl rfl rfl ⟨rfl, rfl, rfl⟩ ⟨by decide, by decide⟩ ⟨Nat.zero_le _, Nat.zero_le _⟩ (pShape14 O P Y g hu _) ?_
      intro r2 w2 hq2
      obtain ⟨rfl, h2⟩ := hq2
      obtain rfl := shq_of h2
      iterate 1 (refine zv_step (bX2_firstAlike 1) rfl rfl trivial ?_)
      refine zv_ifb (fun hs => ?_) (fun hs => ?_)
      · iterate 2 (refine zv_step (bX2_firstAlike 1) rfl rfl trivial ?_)
        rw [faW_no (fun q => hs q.2.1)]
        exact ih (m + 1) (by omega) (nI_1 m)
      · iterate 4 (refine zv_step (bX2_firstAlike 1) rfl rfl trivial ?_)
        refine zv_step (bX2_firstAlike 1) rfl rfl (vp_in_nI (n := m) (by omega) (by decide)) ?_
        refine zv_V1 (bX2_firstAlike 1) rfl rfl rfl rfl rfl rfl rfl ⟨rfl, rfl, rfl⟩ ⟨by decide, by decide⟩ ⟨Nat.zero_le _, Nat.zero_le _⟩ (pShape14 O P Y g hu _) ?_
        intro r3 w3 hq3
        obtain ⟨rfl, h3⟩ := hq3
        obtain rfl := shq_of h3
        iterate 4 (refine zv_step (bX2_firstAlike 1) rfl rfl trivial ?_)
        refine zv_step (bX2_firstAlike 1) rfl rfl (vp_in_nI (n := n) (by omega) (by decide)) ?_
        refine zv_V1 (bX2_firstAlike 1) rfl rfl rfl rfl rfl rfl rfl ⟨rfl, rfl, rfl⟩ ⟨by decide, by decide⟩ ⟨Nat.zero_le _, Nat.zero_le _⟩ (pShape14 O P Y g hu _) ?_
        intro r4 w4 hq4
        obtain ⟨rfl, h4⟩ := hq4
        obtain rfl := shq_of h4
        iterate 1 (refine zv_step (bX2_firstAlike 1) rfl rfl trivial ?_)
        refine zv_ifb (fun hs2 => ?_) (fun hs2 => ?_)
        · iterate 2 (refine zv_step (bX2_firstAlike 1) rfl rfl trivial ?_)
          rw [faW_no (fun q => hs2 q.2.2)]
          exact ih (m + 1) (by omega) (nI_1 m)
        · iterate 3 (refine zv_step (bX2_firstAlike 1) rfl rfl trivial ?_)
          refine zv_step (bX2_firstAlike 1) rfl rfl (vp_in_nI (n := m) (by omega) (by decide)) ?_
          exact zv_iret (bX2_firstAlike 1) rfl (Or.inl rfl) (Nat.zero_le _) (Nat.zero_le _) ⟨rfl, congrArg (fun v => some (Value.int v)) (faW_yes ⟨ht, Decidable.not_not.mp hs, Decidable.not_not.mp hs2⟩).symm⟩
    · iterate 1 (refine zv_step (bX2_firstAlike 1) rfl rfl trivial ?_)
      refine zv_ift (by decide) ?_
      iterate 2 (refine zv_step (bX2_firstAlike 1) rfl rfl trivial ?_)
      rw [faW_no (fun q => ht q.1)]
      exact ih (m + 1) (by omega) (nI_1 m)
set_option maxHeartbeats 1000000 in
set_option maxRecDepth 20000 in
theorem pFirst14 (O : Nat → Int32) (P : Nat → Nat → Int32) (Y : Nat → Nat → Int64) (g : Nat → zC) (hu : (O 2).toInt ≤ 120) {n : Nat} (hn : n < 120) {x : Int32} (e : x = nI n) : zK 1 zX2_firstAlike [.ref 14, .int x] (wX O P Y g) (fun r w' => w' = wX O P Y g ∧ r = some (.int (faW 14 (O 2) P n n 0))) := by
  subst e
  refine zK_of qX2_firstAlike (by decide +kernel) rfl ?_
  iterate 2 (refine zv_step (bX2_firstAlike 1) rfl rfl trivial ?_)
  exact pFirstL14 O P Y g hu hn n 0 (by omega) rfl
set_option maxHeartbeats 1000000 in
set_option maxRecDepth 20000 in
theorem pPutL14 (O : Nat → Int32) (P : Nat → Nat → Int32) (Y : Nat → Nat → Int64) (g : Nat → zC) (hu : (O 2).toInt ≤ 120) {m : Nat} (hm : m < 120) (hmu : O 2 = nI m) (k v x y ow ch le ca : Int32) {n0 : Nat} {Q : Option Value → zW → Prop} (kk : ∀ sh, sh = faW 14 (O 2) (adI 14 (O 2) (adI 14 (O 2) (putV 14 P (nC (O 2)) k v x y ow ch le ca) (nC (O 2)) x) (nC (O 2)) y) m m 0 → Q (some (.int (O 2))) (wX (upd O 2 (O 2 + Int32.ofInt 1)) (updA (adI 14 (O 2) (adI 14 (O 2) (putV 14 P (nC (O 2)) k v x y ow ch le ca) (nC (O 2)) x) (nC (O 2)) y) 25 (upd ((adI 14 (O 2) (adI 14 (O 2) (putV 14 P (nC (O 2)) k v x y ow ch le ca) (nC (O 2)) x) (nC (O 2)) y) 25) (nC (O 2)) sh)) Y g)) : zV (zMo 2 zX2_put) false n0 0 0 136 [(5, .int (O 2)), (0, .ref 14), (1, .int k), (2, .int v), (3, .int x), (4, .int y)] [] (wX O (putV 14 P (nC (O 2)) k v x y ow ch le ca) Y g) Q := by
  have hv : vp_in (O 2) 120 := by rw [hmu]; exact vp_in_nI hm (by decide)
  iterate 3 (refine zv_step (bX2_put 2) rfl rfl trivial ?_)
  refine zv_V2 (bX2_put 2) rfl rfl rfl rfl rfl rfl rfl ⟨rfl, rfl, rfl⟩ ⟨by decide, by decide⟩ ⟨Nat.zero_le _, Nat.zero_le _⟩ (pAdd14 O (putV 14 P (nC (O 2)) k v x y ow ch le ca) Y g hu hv) ?_
  rintro _ _ ⟨rfl, rfl⟩
  iterate 3 (refine zv_step (bX2_put 2) rfl rfl trivial ?_)
  refine zv_V2 (bX2_put 2) rfl rfl rfl rfl rfl rfl rfl ⟨rfl, rfl, rfl⟩ ⟨by decide, by decide⟩ ⟨Nat.zero_le _, Nat.zero_le _⟩ (pAdd14 O (adI 14 (O 2) (putV 14 P (nC (O 2)) k v x y ow ch le ca) (nC (O 2)) x) Y g hu hv) ?_
  rintro _ _ ⟨rfl, rfl⟩
  iterate 5 (refine zv_step (bX2_put 2) rfl rfl trivial ?_)
  refine zv_V1 (bX2_put 2) rfl rfl rfl rfl rfl rfl rfl ⟨rfl, rfl, rfl⟩ ⟨by decide, by decide⟩ ⟨Nat.zero_le _, Nat.zero_le _⟩ (pFirst14 O (adI 14 (O 2) (adI 14 (O 2) (putV 14 P (nC (O 2)) k v x y ow ch le ca) (nC (O 2)) x) (nC (O 2)) y) Y g hu hm hmu) ?_
  rintro _ _ ⟨rfl, rfl⟩
  refine zv_step (bX2_put 2) rfl rfl (hv) ?_
  iterate 7 (refine zv_step (bX2_put 2) rfl rfl trivial ?_)
  exact zv_iret (bX2_put 2) rfl (Or.inl rfl) (Nat.zero_le _) (Nat.zero_le _) (kk _ rfl)
set_option maxHeartbeats 4000000 in
set_option maxRecDepth 20000 in
theorem pPut14 (O : Nat → Int32) (P : Nat → Nat → Int32) (Y : Nat → Nat → Int64) (g : Nat → zC) (hu : (O 2).toInt ≤ 120) {m : Nat} (hm : m < 120) (hmu : O 2 = nI m) (k v x y : Int32) : zK 2 zX2_put [.ref 14, .int k, .int v, .int x, .int y] (wX O P Y g) (fun r w' => r = some (.int (O 2)) ∧ ∃ sh ch le ca, ch = hbW (Int16.ofInt 764).toInt32 k ∧ le = (if k = 0 then Int32.ofInt 1 <<< (v &&& 31) else Int32.ofInt 0) ∧ ca = (if k = c8 9 then Int32.ofInt 1 <<< (v &&& 31) else Int32.ofInt 0) ∧ sh = faW 14 (O 2) (adI 14 (O 2) (adI 14 (O 2) (putV 14 P (nC (O 2)) k v x y (owW k v) ch le ca) (nC (O 2)) x) (nC (O 2)) y) m m 0 ∧ w' = wX (upd O 2 (O 2 + Int32.ofInt 1)) (updA (adI 14 (O 2) (adI 14 (O 2) (putV 14 P (nC (O 2)) k v x y (owW k v) ch le ca) (nC (O 2)) x) (nC (O 2)) y) 25 (upd ((adI 14 (O 2) (adI 14 (O 2) (putV 14 P (nC (O 2)) k v x y (owW k v) ch le ca) (nC (O 2)) x) (nC (O 2)) y) 25) (nC (O 2)) sh)) Y g) := by
  have hv : vp_in (O 2) 120 := by rw [hmu]; exact vp_in_nI hm (by decide)
  refine zK_of qX2_put (by decide +kernel) rfl ?_
  iterate 1 (refine zv_step (bX2_put 2) rfl rfl trivial ?_)
  refine zv_V0 (bX2_put 2) rfl rfl rfl rfl rfl rfl rfl ⟨rfl, rfl, rfl⟩ ⟨by decide, by decide⟩ ⟨Nat.zero_le _, Nat.zero_le _⟩ (pFull14 O P Y g) ?_
  rintro _ _ ⟨rfl, ⟨hf, rfl⟩ | ⟨hf, rfl⟩⟩
  · rw [hmu, nI_toInt (by omega)] at hf
    omega
  · iterate 1 (refine zv_step (bX2_put 2) rfl rfl trivial ?_)
    refine zv_ift (by decide) ?_
    iterate 7 (refine zv_step (bX2_put 2) rfl rfl trivial ?_)
    refine zv_step (bX2_put 2) rfl rfl (hv) ?_
    refine zv_world (show _ = wX O (updA P 15 (upd (P 15) (nC (O 2)) k)) Y g from rfl) ?_
    iterate 4 (refine zv_step (bX2_put 2) rfl rfl trivial ?_)
    refine zv_step (bX2_put 2) rfl rfl (hv) ?_
    refine zv_world (show _ = wX O (updA (updA P 15 (upd (P 15) (nC (O 2)) k)) 16 (upd (P 16) (nC (O 2)) v)) Y g from rfl) ?_
    iterate 4 (refine zv_step (bX2_put 2) rfl rfl trivial ?_)
    refine zv_step (bX2_put 2) rfl rfl (hv) ?_
    refine zv_world (show _ = wX O (updA (updA (updA P 15 (upd (P 15) (nC (O 2)) k)) 16 (upd (P 16) (nC (O 2)) v)) 17 (upd (P 17) (nC (O 2)) x)) Y g from rfl) ?_
    iterate 4 (refine zv_step (bX2_put 2) rfl rfl trivial ?_)
    refine zv_step (bX2_put 2) rfl rfl (hv) ?_
    refine zv_world (show _ = wX O (updA (updA (updA (updA P 15 (upd (P 15) (nC (O 2)) k)) 16 (upd (P 16) (nC (O 2)) v)) 17 (upd (P 17) (nC (O 2)) x)) 18 (upd (P 18) (nC (O 2)) y)) Y g from rfl) ?_
    iterate 4 (refine zv_step (bX2_put 2) rfl rfl trivial ?_)
    refine zv_step (bX2_put 2) rfl rfl (hv) ?_
    refine zv_world (show _ = wX O (updA (updA (updA (updA (updA P 15 (upd (P 15) (nC (O 2)) k)) 16 (upd (P 16) (nC (O 2)) v)) 17 (upd (P 17) (nC (O 2)) x)) 18 (upd (P 18) (nC (O 2)) y)) 19 (upd (P 19) (nC (O 2)) (Int32.ofInt 1))) Y g from rfl) ?_
    iterate 4 (refine zv_step (bX2_put 2) rfl rfl trivial ?_)
    refine zv_step (bX2_put 2) rfl rfl (hv) ?_
    refine zv_world (show _ = wX O (updA (updA (updA (updA (updA (updA P 15 (upd (P 15) (nC (O 2)) k)) 16 (upd (P 16) (nC (O 2)) v)) 17 (upd (P 17) (nC (O 2)) x)) 18 (upd (P 18) (nC (O 2)) y)) 19 (upd (P 19) (nC (O 2)) (Int32.ofInt 1))) 20 (upd (P 20) (nC (O 2)) (Int32.ofInt 1))) Y g from rfl) ?_
    iterate 5 (refine zv_step (bX2_put 2) rfl rfl trivial ?_)
    refine zv_S2 (bX2_put 2) rfl rfl rfl rfl ⟨rfl, rfl, rfl⟩ ⟨by decide, by decide⟩ ⟨Nat.zero_le _, Nat.zero_le _⟩ (pOwn _ _ _) ?_
    rintro _ _ ⟨rfl, rfl⟩
    refine zv_step (bX2_put 2) rfl rfl (hv) ?_
    refine zv_world (show _ = wX O (updA (updA (updA (updA (updA (updA (updA P 15 (upd (P 15) (nC (O 2)) k)) 16 (upd (P 16) (nC (O 2)) v)) 17 (upd (P 17) (nC (O 2)) x)) 18 (upd (P 18) (nC (O 2)) y)) 19 (upd (P 19) (nC (O 2)) (Int32.ofInt 1))) 20 (upd (P 20) (nC (O 2)) (Int32.ofInt 1))) 21 (upd (P 21) (nC (O 2)) (owW k v))) Y g from rfl) ?_
    iterate 5 (refine zv_step (bX2_put 2) rfl rfl trivial ?_)
    refine zv_S2 (bX2_put 2) rfl rfl rfl rfl ⟨rfl, rfl, rfl⟩ ⟨by decide, by decide⟩ ⟨Nat.zero_le _, Nat.zero_le _⟩ (pHasBit _ _ _) ?_
    rintro _ _ ⟨rfl, ⟨hB, rfl⟩ | ⟨hB, rfl⟩⟩
    · iterate 1 (refine zv_step (bX2_put 2) rfl rfl trivial ?_)
      refine zv_ift (by decide) ?_
      iterate 1 (refine zv_step (bX2_put 2) rfl rfl trivial ?_)
      refine zv_step (bX2_put 2) rfl rfl (hv) ?_
      refine zv_world (show _ = wX O (updA (updA (updA (updA (updA (updA (updA (updA P 15 (upd (P 15) (nC (O 2)) k)) 16 (upd (P 16) (nC (O 2)) v)) 17 (upd (P 17) (nC (O 2)) x)) 18 (upd (P 18) (nC (O 2)) y)) 19 (upd (P 19) (nC (O 2)) (Int32.ofInt 1))) 20 (upd (P 20) (nC (O 2)) (Int32.ofInt 1))) 21 (upd (P 21) (nC (O 2)) (owW k v))) 22 (upd (P 22) (nC (O 2)) (Int32.ofInt 0))) Y g from rfl) ?_
      iterate 5 (refine zv_step (bX2_put 2) rfl rfl trivial ?_)
      refine zv_ifb (fun h0 => ?_) (fun h0 => ?_)
      · iterate 1 (refine zv_step (bX2_put 2) rfl rfl trivial ?_)
        refine zv_step (bX2_put 2) rfl rfl (hv) ?_
        refine zv_world (show _ = wX O (updA (updA (updA (updA (updA (updA (updA (updA (updA P 15 (upd (P 15) (nC (O 2)) k)) 16 (upd (P 16) (nC (O 2)) v)) 17 (upd (P 17) (nC (O 2)) x)) 18 (upd (P 18) (nC (O 2)) y)) 19 (upd (P 19) (nC (O 2)) (Int32.ofInt 1))) 20 (upd (P 20) (nC (O 2)) (Int32.ofInt 1))) 21 (upd (P 21) (nC (O 2)) (owW k v))) 22 (upd (P 22) (nC (O 2)) (Int32.ofInt 0))) 23 (upd (P 23) (nC (O 2)) (Int32.ofInt 0))) Y g from rfl) ?_
        iterate 6 (refine zv_step (bX2_put 2) rfl rfl trivial ?_)
        refine zv_ifb (fun h9 => ?_) (fun h9 => ?_)
        · iterate 1 (refine zv_step (bX2_put 2) rfl rfl trivial ?_)
          refine zv_step (bX2_put 2) rfl rfl (hv) ?_
          refine zv_world (show _ = wX O (updA (updA (updA (updA (updA (updA (updA (updA (updA (updA P 15 (upd (P 15) (nC (O 2)) k)) 16 (upd (P 16) (nC (O 2)) v)) 17 (upd (P 17) (nC (O 2)) x)) 18 (upd (P 18) (nC (O 2)) y)) 19 (upd (P 19) (nC (O 2)) (Int32.ofInt 1))) 20 (upd (P 20) (nC (O 2)) (Int32.ofInt 1))) 21 (upd (P 21) (nC (O 2)) (owW k v))) 22 (upd (P 22) (nC (O 2)) (Int32.ofInt 0))) 23 (upd (P 23) (nC (O 2)) (Int32.ofInt 0))) 24 (upd (P 24) (nC (O 2)) (Int32.ofInt 0))) Y g from rfl) ?_
          exact pPutL14 O P Y g hu hm hmu k v x y (owW k v) (Int32.ofInt 0) (Int32.ofInt 0) (Int32.ofInt 0) (fun sh hsh => ⟨rfl, sh, _, _, _, by unfold hbW; rw [if_pos hB], by rw [if_neg h0], by rw [if_neg h9], hsh, rfl⟩)
        · iterate 4 (refine zv_step (bX2_put 2) rfl rfl trivial ?_)
          refine zv_step (bX2_put 2) rfl rfl (hv) ?_
          refine zv_world (show _ = wX O (updA (updA (updA (updA (updA (updA (updA (updA (updA (updA P 15 (upd (P 15) (nC (O 2)) k)) 16 (upd (P 16) (nC (O 2)) v)) 17 (upd (P 17) (nC (O 2)) x)) 18 (upd (P 18) (nC (O 2)) y)) 19 (upd (P 19) (nC (O 2)) (Int32.ofInt 1))) 20 (upd (P 20) (nC (O 2)) (Int32.ofInt 1))) 21 (upd (P 21) (nC (O 2)) (owW k v))) 22 (upd (P 22) (nC (O 2)) (Int32.ofInt 0))) 23 (upd (P 23) (nC (O 2)) (Int32.ofInt 0))) 24 (upd (P 24) (nC (O 2)) (Int32.ofInt 1 <<< (v &&& 31)))) Y g from rfl) ?_
          exact pPutL14 O P Y g hu hm hmu k v x y (owW k v) (Int32.ofInt 0) (Int32.ofInt 0) (Int32.ofInt 1 <<< (v &&& 31)) (fun sh hsh => ⟨rfl, sh, _, _, _, by unfold hbW; rw [if_pos hB], by rw [if_neg h0], by rw [if_pos (Decidable.not_not.mp h9)], hsh, rfl⟩)
      · iterate 4 (refine zv_step (bX2_put 2) rfl rfl trivial ?_)
        refine zv_step (bX2_put 2) rfl rfl (hv) ?_
        refine zv_world (show _ = wX O (updA (updA (updA (updA (updA (updA (updA (updA (updA P 15 (upd (P 15) (nC (O 2)) k)) 16 (upd (P 16) (nC (O 2)) v)) 17 (upd (P 17) (nC (O 2)) x)) 18 (upd (P 18) (nC (O 2)) y)) 19 (upd (P 19) (nC (O 2)) (Int32.ofInt 1))) 20 (upd (P 20) (nC (O 2)) (Int32.ofInt 1))) 21 (upd (P 21) (nC (O 2)) (owW k v))) 22 (upd (P 22) (nC (O 2)) (Int32.ofInt 0))) 23 (upd (P 23) (nC (O 2)) (Int32.ofInt 1 <<< (v &&& 31)))) Y g from rfl) ?_
        iterate 6 (refine zv_step (bX2_put 2) rfl rfl trivial ?_)
        refine zv_ifb (fun h9 => ?_) (fun h9 => ?_)
        · iterate 1 (refine zv_step (bX2_put 2) rfl rfl trivial ?_)
          refine zv_step (bX2_put 2) rfl rfl (hv) ?_
          refine zv_world (show _ = wX O (updA (updA (updA (updA (updA (updA (updA (updA (updA (updA P 15 (upd (P 15) (nC (O 2)) k)) 16 (upd (P 16) (nC (O 2)) v)) 17 (upd (P 17) (nC (O 2)) x)) 18 (upd (P 18) (nC (O 2)) y)) 19 (upd (P 19) (nC (O 2)) (Int32.ofInt 1))) 20 (upd (P 20) (nC (O 2)) (Int32.ofInt 1))) 21 (upd (P 21) (nC (O 2)) (owW k v))) 22 (upd (P 22) (nC (O 2)) (Int32.ofInt 0))) 23 (upd (P 23) (nC (O 2)) (Int32.ofInt 1 <<< (v &&& 31)))) 24 (upd (P 24) (nC (O 2)) (Int32.ofInt 0))) Y g from rfl) ?_
          exact pPutL14 O P Y g hu hm hmu k v x y (owW k v) (Int32.ofInt 0) (Int32.ofInt 1 <<< (v &&& 31)) (Int32.ofInt 0) (fun sh hsh => ⟨rfl, sh, _, _, _, by unfold hbW; rw [if_pos hB], by rw [if_pos (Decidable.not_not.mp h0)], by rw [if_neg h9], hsh, rfl⟩)
        · iterate 4 (refine zv_step (bX2_put 2) rfl rfl trivial ?_)
          refine zv_step (bX2_put 2) rfl rfl (hv) ?_
          refine zv_world (show _ = wX O (updA (updA (updA (updA (updA (updA (updA (updA (updA (updA P 15 (upd (P 15) (nC (O 2)) k)) 16 (upd (P 16) (nC (O 2)) v)) 17 (upd (P 17) (nC (O 2)) x)) 18 (upd (P 18) (nC (O 2)) y)) 19 (upd (P 19) (nC (O 2)) (Int32.ofInt 1))) 20 (upd (P 20) (nC (O 2)) (Int32.ofInt 1))) 21 (upd (P 21) (nC (O 2)) (owW k v))) 22 (upd (P 22) (nC (O 2)) (Int32.ofInt 0))) 23 (upd (P 23) (nC (O 2)) (Int32.ofInt 1 <<< (v &&& 31)))) 24 (upd (P 24) (nC (O 2)) (Int32.ofInt 1 <<< (v &&& 31)))) Y g from rfl) ?_
          exact pPutL14 O P Y g hu hm hmu k v x y (owW k v) (Int32.ofInt 0) (Int32.ofInt 1 <<< (v &&& 31)) (Int32.ofInt 1 <<< (v &&& 31)) (fun sh hsh => ⟨rfl, sh, _, _, _, by unfold hbW; rw [if_pos hB], by rw [if_pos (Decidable.not_not.mp h0)], by rw [if_pos (Decidable.not_not.mp h9)], hsh, rfl⟩)
    · iterate 1 (refine zv_step (bX2_put 2) rfl rfl trivial ?_)
      refine zv_iff (by decide) ?_
      iterate 2 (refine zv_step (bX2_put 2) rfl rfl trivial ?_)
      refine zv_step (bX2_put 2) rfl rfl (hv) ?_
      refine zv_world (show _ = wX O (updA (updA (updA (updA (updA (updA (updA (updA P 15 (upd (P 15) (nC (O 2)) k)) 16 (upd (P 16) (nC (O 2)) v)) 17 (upd (P 17) (nC (O 2)) x)) 18 (upd (P 18) (nC (O 2)) y)) 19 (upd (P 19) (nC (O 2)) (Int32.ofInt 1))) 20 (upd (P 20) (nC (O 2)) (Int32.ofInt 1))) 21 (upd (P 21) (nC (O 2)) (owW k v))) 22 (upd (P 22) (nC (O 2)) (Int32.ofInt 1))) Y g from rfl) ?_
      iterate 5 (refine zv_step (bX2_put 2) rfl rfl trivial ?_)
      refine zv_ifb (fun h0 => ?_) (fun h0 => ?_)
      · iterate 1 (refine zv_step (bX2_put 2) rfl rfl trivial ?_)
        refine zv_step (bX2_put 2) rfl rfl (hv) ?_
        refine zv_world (show _ = wX O (updA (updA (updA (updA (updA (updA (updA (updA (updA P 15 (upd (P 15) (nC (O 2)) k)) 16 (upd (P 16) (nC (O 2)) v)) 17 (upd (P 17) (nC (O 2)) x)) 18 (upd (P 18) (nC (O 2)) y)) 19 (upd (P 19) (nC (O 2)) (Int32.ofInt 1))) 20 (upd (P 20) (nC (O 2)) (Int32.ofInt 1))) 21 (upd (P 21) (nC (O 2)) (owW k v))) 22 (upd (P 22) (nC (O 2)) (Int32.ofInt 1))) 23 (upd (P 23) (nC (O 2)) (Int32.ofInt 0))) Y g from rfl) ?_
        iterate 6 (refine zv_step (bX2_put 2) rfl rfl trivial ?_)
        refine zv_ifb (fun h9 => ?_) (fun h9 => ?_)
        · iterate 1 (refine zv_step (bX2_put 2) rfl rfl trivial ?_)
          refine zv_step (bX2_put 2) rfl rfl (hv) ?_
          refine zv_world (show _ = wX O (updA (updA (updA (updA (updA (updA (updA (updA (updA (updA P 15 (upd (P 15) (nC (O 2)) k)) 16 (upd (P 16) (nC (O 2)) v)) 17 (upd (P 17) (nC (O 2)) x)) 18 (upd (P 18) (nC (O 2)) y)) 19 (upd (P 19) (nC (O 2)) (Int32.ofInt 1))) 20 (upd (P 20) (nC (O 2)) (Int32.ofInt 1))) 21 (upd (P 21) (nC (O 2)) (owW k v))) 22 (upd (P 22) (nC (O 2)) (Int32.ofInt 1))) 23 (upd (P 23) (nC (O 2)) (Int32.ofInt 0))) 24 (upd (P 24) (nC (O 2)) (Int32.ofInt 0))) Y g from rfl) ?_
          exact pPutL14 O P Y g hu hm hmu k v x y (owW k v) (Int32.ofInt 1) (Int32.ofInt 0) (Int32.ofInt 0) (fun sh hsh => ⟨rfl, sh, _, _, _, by unfold hbW; rw [if_neg hB], by rw [if_neg h0], by rw [if_neg h9], hsh, rfl⟩)
        · iterate 4 (refine zv_step (bX2_put 2) rfl rfl trivial ?_)
          refine zv_step (bX2_put 2) rfl rfl (hv) ?_
          refine zv_world (show _ = wX O (updA (updA (updA (updA (updA (updA (updA (updA (updA (updA P 15 (upd (P 15) (nC (O 2)) k)) 16 (upd (P 16) (nC (O 2)) v)) 17 (upd (P 17) (nC (O 2)) x)) 18 (upd (P 18) (nC (O 2)) y)) 19 (upd (P 19) (nC (O 2)) (Int32.ofInt 1))) 20 (upd (P 20) (nC (O 2)) (Int32.ofInt 1))) 21 (upd (P 21) (nC (O 2)) (owW k v))) 22 (upd (P 22) (nC (O 2)) (Int32.ofInt 1))) 23 (upd (P 23) (nC (O 2)) (Int32.ofInt 0))) 24 (upd (P 24) (nC (O 2)) (Int32.ofInt 1 <<< (v &&& 31)))) Y g from rfl) ?_
          exact pPutL14 O P Y g hu hm hmu k v x y (owW k v) (Int32.ofInt 1) (Int32.ofInt 0) (Int32.ofInt 1 <<< (v &&& 31)) (fun sh hsh => ⟨rfl, sh, _, _, _, by unfold hbW; rw [if_neg hB], by rw [if_neg h0], by rw [if_pos (Decidable.not_not.mp h9)], hsh, rfl⟩)
      · iterate 4 (refine zv_step (bX2_put 2) rfl rfl trivial ?_)
        refine zv_step (bX2_put 2) rfl rfl (hv) ?_
        refine zv_world (show _ = wX O (updA (updA (updA (updA (updA (updA (updA (updA (updA P 15 (upd (P 15) (nC (O 2)) k)) 16 (upd (P 16) (nC (O 2)) v)) 17 (upd (P 17) (nC (O 2)) x)) 18 (upd (P 18) (nC (O 2)) y)) 19 (upd (P 19) (nC (O 2)) (Int32.ofInt 1))) 20 (upd (P 20) (nC (O 2)) (Int32.ofInt 1))) 21 (upd (P 21) (nC (O 2)) (owW k v))) 22 (upd (P 22) (nC (O 2)) (Int32.ofInt 1))) 23 (upd (P 23) (nC (O 2)) (Int32.ofInt 1 <<< (v &&& 31)))) Y g from rfl) ?_
        iterate 6 (refine zv_step (bX2_put 2) rfl rfl trivial ?_)
        refine zv_ifb (fun h9 => ?_) (fun h9 => ?_)
        · iterate 1 (refine zv_step (bX2_put 2) rfl rfl trivial ?_)
          refine zv_step (bX2_put 2) rfl rfl (hv) ?_
          refine zv_world (show _ = wX O (updA (updA (updA (updA (updA (updA (updA (updA (updA (updA P 15 (upd (P 15) (nC (O 2)) k)) 16 (upd (P 16) (nC (O 2)) v)) 17 (upd (P 17) (nC (O 2)) x)) 18 (upd (P 18) (nC (O 2)) y)) 19 (upd (P 19) (nC (O 2)) (Int32.ofInt 1))) 20 (upd (P 20) (nC (O 2)) (Int32.ofInt 1))) 21 (upd (P 21) (nC (O 2)) (owW k v))) 22 (upd (P 22) (nC (O 2)) (Int32.ofInt 1))) 23 (upd (P 23) (nC (O 2)) (Int32.ofInt 1 <<< (v &&& 31)))) 24 (upd (P 24) (nC (O 2)) (Int32.ofInt 0))) Y g from rfl) ?_
          exact pPutL14 O P Y g hu hm hmu k v x y (owW k v) (Int32.ofInt 1) (Int32.ofInt 1 <<< (v &&& 31)) (Int32.ofInt 0) (fun sh hsh => ⟨rfl, sh, _, _, _, by unfold hbW; rw [if_neg hB], by rw [if_pos (Decidable.not_not.mp h0)], by rw [if_neg h9], hsh, rfl⟩)
        · iterate 4 (refine zv_step (bX2_put 2) rfl rfl trivial ?_)
          refine zv_step (bX2_put 2) rfl rfl (hv) ?_
          refine zv_world (show _ = wX O (updA (updA (updA (updA (updA (updA (updA (updA (updA (updA P 15 (upd (P 15) (nC (O 2)) k)) 16 (upd (P 16) (nC (O 2)) v)) 17 (upd (P 17) (nC (O 2)) x)) 18 (upd (P 18) (nC (O 2)) y)) 19 (upd (P 19) (nC (O 2)) (Int32.ofInt 1))) 20 (upd (P 20) (nC (O 2)) (Int32.ofInt 1))) 21 (upd (P 21) (nC (O 2)) (owW k v))) 22 (upd (P 22) (nC (O 2)) (Int32.ofInt 1))) 23 (upd (P 23) (nC (O 2)) (Int32.ofInt 1 <<< (v &&& 31)))) 24 (upd (P 24) (nC (O 2)) (Int32.ofInt 1 <<< (v &&& 31)))) Y g from rfl) ?_
          exact pPutL14 O P Y g hu hm hmu k v x y (owW k v) (Int32.ofInt 1) (Int32.ofInt 1 <<< (v &&& 31)) (Int32.ofInt 1 <<< (v &&& 31)) (fun sh hsh => ⟨rfl, sh, _, _, _, by unfold hbW; rw [if_neg hB], by rw [if_pos (Decidable.not_not.mp h0)], by rw [if_pos (Decidable.not_not.mp h9)], hsh, rfl⟩)
set_option maxHeartbeats 1000000 in
set_option maxRecDepth 20000 in
theorem pPutNo14 (O : Nat → Int32) (P : Nat → Nat → Int32) (Y : Nat → Nat → Int64) (g : Nat → zC) (hu : 120 ≤ (O 2).toInt) (k v x y : Int32) : zK 2 zX2_put [.ref 14, .int k, .int v, .int x, .int y] (wX O P Y g) (fun r w' => r = some (.int (Int32.ofInt (-1))) ∧ w' = wX O P Y g) := by
  refine zK_of qX2_put (by decide +kernel) rfl ?_
  iterate 1 (refine zv_step (bX2_put 2) rfl rfl trivial ?_)
  refine zv_V0 (bX2_put 2) rfl rfl rfl rfl rfl rfl rfl ⟨rfl, rfl, rfl⟩ ⟨by decide, by decide⟩ ⟨Nat.zero_le _, Nat.zero_le _⟩ (pFull14 O P Y g) ?_
  rintro _ _ ⟨rfl, ⟨hf, rfl⟩ | ⟨hf, rfl⟩⟩
  · iterate 1 (refine zv_step (bX2_put 2) rfl rfl trivial ?_)
    refine zv_iff (by decide) ?_
    iterate 1 (refine zv_step (bX2_put 2) rfl rfl trivial ?_)
    exact zv_iret (bX2_put 2) rfl (Or.inl rfl) (Nat.zero_le _) (Nat.zero_le _) ⟨rfl, rfl⟩
  · exact absurd hu hf
end
section
/-- a row of 80 words, with one more at place q, if there is room -/
def ap1 (row : Nat → Int32) (q : Nat) (v : Int32) : Nat → Int32 := if q < 80 then upd row q v else row
def ap8 : (Nat → Int32) → Nat → List Int32 → Nat → Int32
  | g, _, [] => g
  | g, q, v :: L => ap8 (ap1 g q v) (q + 1) L
theorem ap8_app : ∀ (L M : List Int32) (g : Nat → Int32) (q : Nat), ap8 g q (L ++ M) = ap8 (ap8 g q L) (q + L.length) M
  | [], M, g, q => rfl
  | v :: L, M, g, q => by
    show ap8 (ap1 g q v) (q + 1) (L ++ M) = ap8 (ap8 (ap1 g q v) (q + 1) L) (q + (L.length + 1)) M
    rw [ap8_app L M, show q + 1 + L.length = q + (L.length + 1) by omega]
theorem e80 : c8 80 = nI 80 := by decide +kernel
/-- whether a PART of this KIND is KEPT -/
def dbW (k p first : Int32) : Int32 := if 2 ≤ p.toInt ∧ p.toInt ≤ 6 then (if (2 ≤ k.toInt ∧ k.toInt ≤ 6) ∨ (k.toInt = 7 ∨ k.toInt = 9) then Int32.ofInt 1 else Int32.ofInt 0) else (if ¬ first = 0 ∧ (p.toInt = 7 ∨ p.toInt = 9) ∧ (2 ≤ k.toInt ∧ k.toInt ≤ 6) then Int32.ofInt 1 else Int32.ofInt 0)
set_option maxHeartbeats 1000000 in
set_option maxRecDepth 20000 in
theorem sDoubt (w : zW) (k p first : Int32) : zK 1 zX1_isDoubtful [.int k, .int p, .int first] w (fun r w' => w' = w ∧ r = some (.int (dbW k p first))) := by
  refine zK_of qX1_isDoubtful (by decide +kernel) rfl ?_
  iterate 1 (refine zv_step (bX1_isDoubtful 1) rfl rfl trivial ?_)
  refine zv_S1 (bX1_isDoubtful 1) rfl rfl rfl rfl ⟨rfl, rfl, rfl⟩ ⟨by decide, by decide⟩ ⟨Nat.zero_le _, Nat.zero_le _⟩ (hX1_isPair _ _) ?_
  rintro _ _ ⟨rfl, ⟨h1, rfl⟩ | ⟨h1, rfl⟩⟩
  · iterate 1 (refine zv_step (bX1_isDoubtful 1) rfl rfl trivial ?_)
    refine zv_iff (by decide) ?_
    iterate 1 (refine zv_step (bX1_isDoubtful 1) rfl rfl trivial ?_)
    refine zv_S1 (bX1_isDoubtful 1) rfl rfl rfl rfl ⟨rfl, rfl, rfl⟩ ⟨by decide, by decide⟩ ⟨Nat.zero_le _, Nat.zero_le _⟩ (hX1_isPair _ _) ?_
    rintro _ _ ⟨rfl, ⟨h2, rfl⟩ | ⟨h2, rfl⟩⟩
    · iterate 1 (refine zv_step (bX1_isDoubtful 1) rfl rfl trivial ?_)
      refine zv_ift (by decide) ?_
      iterate 2 (refine zv_step (bX1_isDoubtful 1) rfl rfl trivial ?_)
      exact zv_iret (bX1_isDoubtful 1) rfl (Or.inr ⟨rfl, Or.inr rfl⟩) (Nat.zero_le _) (Nat.zero_le _) ⟨rfl, by unfold dbW; rw [if_pos h1, if_pos (Or.inl h2)]⟩
    · iterate 1 (refine zv_step (bX1_isDoubtful 1) rfl rfl trivial ?_)
      refine zv_iff (by decide) ?_
      iterate 1 (refine zv_step (bX1_isDoubtful 1) rfl rfl trivial ?_)
      refine zv_S1 (bX1_isDoubtful 1) rfl rfl rfl rfl ⟨rfl, rfl, rfl⟩ ⟨by decide, by decide⟩ ⟨Nat.zero_le _, Nat.zero_le _⟩ (hX1_isPrefix _ _) ?_
      rintro _ _ ⟨rfl, ⟨h3, rfl⟩ | ⟨h3, rfl⟩⟩
      · iterate 1 (refine zv_step (bX1_isDoubtful 1) rfl rfl trivial ?_)
        refine zv_iff (by decide) ?_
        iterate 2 (refine zv_step (bX1_isDoubtful 1) rfl rfl trivial ?_)
        exact zv_iret (bX1_isDoubtful 1) rfl (Or.inr ⟨rfl, Or.inr rfl⟩) (Nat.zero_le _) (Nat.zero_le _) ⟨rfl, by unfold dbW; rw [if_pos h1, if_pos (Or.inr h3)]⟩
      · iterate 1 (refine zv_step (bX1_isDoubtful 1) rfl rfl trivial ?_)
        refine zv_ift (by decide) ?_
        iterate 1 (refine zv_step (bX1_isDoubtful 1) rfl rfl trivial ?_)
        exact zv_iret (bX1_isDoubtful 1) rfl (Or.inr ⟨rfl, Or.inl rfl⟩) (Nat.zero_le _) (Nat.zero_le _) ⟨rfl, by unfold dbW; rw [if_pos h1, if_neg (fun q => q.elim h2 h3)]⟩
  · iterate 1 (refine zv_step (bX1_isDoubtful 1) rfl rfl trivial ?_)
    refine zv_ift (by decide) ?_
    iterate 2 (refine zv_step (bX1_isDoubtful 1) rfl rfl trivial ?_)
    refine zv_ifb (fun hf => ?_) (fun hf => ?_)
    · iterate 1 (refine zv_step (bX1_isDoubtful 1) rfl rfl trivial ?_)
      exact zv_iret (bX1_isDoubtful 1) rfl (Or.inr ⟨rfl, Or.inl rfl⟩) (Nat.zero_le _) (Nat.zero_le _) ⟨rfl, by unfold dbW; rw [if_neg h1, if_neg (fun q => q.1 hf)]⟩
    · iterate 1 (refine zv_step (bX1_isDoubtful 1) rfl rfl trivial ?_)
      refine zv_S1 (bX1_isDoubtful 1) rfl rfl rfl rfl ⟨rfl, rfl, rfl⟩ ⟨by decide, by decide⟩ ⟨Nat.zero_le _, Nat.zero_le _⟩ (hX1_isPrefix _ _) ?_
      rintro _ _ ⟨rfl, ⟨h2, rfl⟩ | ⟨h2, rfl⟩⟩
      · iterate 1 (refine zv_step (bX1_isDoubtful 1) rfl rfl trivial ?_)
        refine zv_iff (by decide) ?_
        iterate 1 (refine zv_step (bX1_isDoubtful 1) rfl rfl trivial ?_)
        refine zv_S1 (bX1_isDoubtful 1) rfl rfl rfl rfl ⟨rfl, rfl, rfl⟩ ⟨by decide, by decide⟩ ⟨Nat.zero_le _, Nat.zero_le _⟩ (hX1_isPair _ _) ?_
        rintro _ _ ⟨rfl, ⟨h3, rfl⟩ | ⟨h3, rfl⟩⟩
        · iterate 1 (refine zv_step (bX1_isDoubtful 1) rfl rfl trivial ?_)
          refine zv_iff (by decide) ?_
          iterate 2 (refine zv_step (bX1_isDoubtful 1) rfl rfl trivial ?_)
          exact zv_iret (bX1_isDoubtful 1) rfl (Or.inr ⟨rfl, Or.inr rfl⟩) (Nat.zero_le _) (Nat.zero_le _) ⟨rfl, by unfold dbW; rw [if_neg h1, if_pos ⟨hf, h2, h3⟩]⟩
        · iterate 1 (refine zv_step (bX1_isDoubtful 1) rfl rfl trivial ?_)
          refine zv_ift (by decide) ?_
          iterate 1 (refine zv_step (bX1_isDoubtful 1) rfl rfl trivial ?_)
          exact zv_iret (bX1_isDoubtful 1) rfl (Or.inr ⟨rfl, Or.inl rfl⟩) (Nat.zero_le _) (Nat.zero_le _) ⟨rfl, by unfold dbW; rw [if_neg h1, if_neg (fun q => h3 q.2.2)]⟩
      · iterate 1 (refine zv_step (bX1_isDoubtful 1) rfl rfl trivial ?_)
        refine zv_ift (by decide) ?_
        iterate 1 (refine zv_step (bX1_isDoubtful 1) rfl rfl trivial ?_)
        exact zv_iret (bX1_isDoubtful 1) rfl (Or.inr ⟨rfl, Or.inl rfl⟩) (Nat.zero_le _) (Nat.zero_le _) ⟨rfl, by unfold dbW; rw [if_neg h1, if_neg (fun q => h2 q.2.1)]⟩
/-- a NUMBER's digits as words -/
def dgW (v : Int32) : List Int32 := if v < (Int16.ofInt 1000).toInt32 then (if v < c8 100 then (if v < c8 10 then [c8 10 + (v / Int32.ofInt 1 - v / Int32.ofInt 1 / c8 10 * c8 10)] else [c8 10 + (v / c8 10 - v / c8 10 / c8 10 * c8 10), c8 10 + (v / (c8 10 / c8 10) - v / (c8 10 / c8 10) / c8 10 * c8 10)]) else [c8 10 + (v / c8 100 - v / c8 100 / c8 10 * c8 10), c8 10 + (v / (c8 100 / c8 10) - v / (c8 100 / c8 10) / c8 10 * c8 10), c8 10 + (v / ((c8 100 / c8 10) / c8 10) - v / ((c8 100 / c8 10) / c8 10) / c8 10 * c8 10)]) else [c8 10 + (v / (Int16.ofInt 1000).toInt32 - v / (Int16.ofInt 1000).toInt32 / c8 10 * c8 10), c8 10 + (v / ((Int16.ofInt 1000).toInt32 / c8 10) - v / ((Int16.ofInt 1000).toInt32 / c8 10) / c8 10 * c8 10), c8 10 + (v / (((Int16.ofInt 1000).toInt32 / c8 10) / c8 10) - v / (((Int16.ofInt 1000).toInt32 / c8 10) / c8 10) / c8 10 * c8 10), c8 10 + (v / ((((Int16.ofInt 1000).toInt32 / c8 10) / c8 10) / c8 10) - v / ((((Int16.ofInt 1000).toInt32 / c8 10) / c8 10) / c8 10) / c8 10 * c8 10)]
theorem dgW_len (v : Int32) : 1 ≤ (dgW v).length ∧ (dgW v).length ≤ 4 := by
  unfold dgW
  split
  · split
    · split
      · exact ⟨Nat.le_of_ble_eq_true rfl, Nat.le_of_ble_eq_true rfl⟩
      · exact ⟨Nat.le_of_ble_eq_true rfl, Nat.le_of_ble_eq_true rfl⟩
    · exact ⟨Nat.le_of_ble_eq_true rfl, Nat.le_of_ble_eq_true rfl⟩
  · exact ⟨Nat.le_of_ble_eq_true rfl, Nat.le_of_ble_eq_true rfl⟩
end
section
set_option maxHeartbeats 1000000 in
set_option maxRecDepth 20000 in
theorem sAdd27 (O : Nat → Int32) (P : Nat → Nat → Int32) (Y : Nat → Nat → Int64) (g : Nat → zC) {q : Nat} (hq : q + 1 < 2 ^ 31) (row : Nat → Int32) (v : Int32) : zK 0 zX4_add [.ref 27, .int v] (wX (upd O 3 (nI (q))) (updA P 28 (row)) Y g) (fun r w' => r = none ∧ w' = (wX (upd O 3 (nI (q + 1))) (updA P 28 (ap1 row q v)) Y g)) := by
  refine zK_of qX4_add (by decide +kernel) rfl ?_
  iterate 4 (refine zv_step (bX4_add 0) rfl rfl trivial ?_)
  refine zv_ifb (fun hc => ?_) (fun hc => ?_)
  · have hc : c8 80 ≤ nI q := hc
    rw [e80, nI_leI (by decide) (by omega)] at hc
    iterate 6 (refine zv_step (bX4_add 0) rfl rfl trivial ?_)
    exact zv_ret (bX4_add 0) rfl rfl (Nat.zero_le _) (Nat.zero_le _) ⟨rfl, by unfold ap1; rw [if_neg (by omega), ← nI_1]; rfl⟩
  · have hc : ¬ c8 80 ≤ nI q := hc
    rw [e80, nI_leI (by decide) (by omega)] at hc
    iterate 5 (refine zv_step (bX4_add 0) rfl rfl trivial ?_)
    refine zv_step (bX4_add 0) rfl rfl (show vp_in (nI q) 80 from vp_in_nI (by omega) (by decide)) ?_
    iterate 6 (refine zv_step (bX4_add 0) rfl rfl trivial ?_)
    exact zv_ret (bX4_add 0) rfl rfl (Nat.zero_le _) (Nat.zero_le _) ⟨rfl, by unfold ap1; rw [if_pos (by omega)]; show wX (upd O 3 (nI q + Int32.ofInt 1)) (updA P 28 (upd row (nI q).toNatClampNeg v)) Y g = _; rw [nI_clamp (by omega), show nI q + Int32.ofInt 1 = nI (q + 1) from nI_1 q]⟩
set_option maxHeartbeats 1000000 in
set_option maxRecDepth 20000 in
theorem sLong27 (O : Nat → Int32) (P : Nat → Nat → Int32) (Y : Nat → Nat → Int64) (g : Nat → zC) : zK 0 zX4_isTooLong [.ref 27] (wX O P Y g) (fun r w' => w' = wX O P Y g ∧ ((80 < (O 3).toInt ∧ r = some (.int 1)) ∨ (¬ 80 < (O 3).toInt ∧ r = some (.int 0)))) := by
  refine zK_of qX4_isTooLong (by decide +kernel) rfl ?_
  iterate 4 (refine zv_step (bX4_isTooLong 0) rfl rfl trivial ?_)
  refine zv_ifb (fun hc => ?_) (fun hc => ?_)
  · have hc : O 3 ≤ c8 80 := hc
    rw [Int32.le_iff_toInt_le, i8c 80 (by decide)] at hc
    iterate 1 (refine zv_step (bX4_isTooLong 0) rfl rfl trivial ?_)
    exact zv_iret (bX4_isTooLong 0) rfl (Or.inr ⟨rfl, Or.inl rfl⟩) (Nat.zero_le _) (Nat.zero_le _) ⟨rfl, Or.inr ⟨by omega, rfl⟩⟩
  · have hc : ¬ O 3 ≤ c8 80 := hc
    rw [Int32.le_iff_toInt_le, i8c 80 (by decide)] at hc
    iterate 2 (refine zv_step (bX4_isTooLong 0) rfl rfl trivial ?_)
    exact zv_iret (bX4_isTooLong 0) rfl (Or.inr ⟨rfl, Or.inr rfl⟩) (Nat.zero_le _) (Nat.zero_le _) ⟨rfl, Or.inl ⟨by omega, rfl⟩⟩
set_option maxHeartbeats 1000000 in
set_option maxRecDepth 20000 in
theorem sDigits27 (O : Nat → Int32) (P : Nat → Nat → Int32) (Y : Nat → Nat → Int64) (g : Nat → zC) {q : Nat} (hq : q + 4 < 2 ^ 31) (row : Nat → Int32) (v : Int32) : zK 1 zX4_addDigits [.ref 27, .int v] (wX (upd O 3 (nI (q))) (updA P 28 (row)) Y g) (fun r w' => r = none ∧ w' = (wX (upd O 3 (nI (q + (dgW v).length))) (updA P 28 (ap8 row q (dgW v))) Y g)) := by
  refine zK_of qX4_addDigits (by decide +kernel) rfl ?_
  iterate 3 (refine zv_step (bX4_addDigits 1) rfl rfl trivial ?_)
  refine zv_ifb (fun h1 => ?_) (fun h1 => ?_)
  · iterate 3 (refine zv_step (bX4_addDigits 1) rfl rfl trivial ?_)
    refine zv_ifb (fun h2 => ?_) (fun h2 => ?_)
    · iterate 3 (refine zv_step (bX4_addDigits 1) rfl rfl trivial ?_)
      refine zv_ifb (fun h3 => ?_) (fun h3 => ?_)
      · iterate 4 (refine zv_step (bX4_addDigits 1) rfl rfl trivial ?_)
        show zV _ _ _ _ _ 39 [(3, .int 0), (2, .int (Int32.ofInt 1)), (0, .ref 27), (1, .int v)] [] (wX (upd O 3 (nI (q))) (updA P 28 (row)) Y g) _
        iterate 3 (refine zv_step (bX4_addDigits 1) rfl rfl trivial ?_)
        refine zv_iff (by decide) ?_
        iterate 2 (refine zv_step (bX4_addDigits 1) rfl rfl trivial ?_)
        refine zv_iff (by decide) ?_
        iterate 4 (refine zv_step (bX4_addDigits 1) rfl rfl trivial ?_)
        refine zv_step (bX4_addDigits 1) rfl rfl (by dsimp only; decide) ?_
        iterate 1 (refine zv_step (bX4_addDigits 1) rfl rfl trivial ?_)
        refine zv_step (bX4_addDigits 1) rfl rfl (by dsimp only; decide) ?_
        iterate 1 (refine zv_step (bX4_addDigits 1) rfl rfl trivial ?_)
        refine zv_V1 (bX4_addDigits 1) rfl rfl rfl rfl rfl rfl rfl ⟨rfl, rfl, rfl⟩ ⟨by decide, by decide⟩ ⟨Nat.zero_le _, Nat.zero_le _⟩ (sAdd27 O P Y g (by omega) _ _) ?_
        rintro _ _ ⟨rfl, rfl⟩
        iterate 2 (refine zv_step (bX4_addDigits 1) rfl rfl trivial ?_)
        refine zv_step (bX4_addDigits 1) rfl rfl (by dsimp only; decide) ?_
        iterate 3 (refine zv_step (bX4_addDigits 1) rfl rfl trivial ?_)
        show zV _ _ _ _ _ 39 [(3, .int 1), (2, .int ((Int32.ofInt 1 / c8 10))), (0, .ref 27), (1, .int v)] [] (wX (upd O 3 (nI (q + 1))) (updA P 28 (ap1 (row) (q) (c8 10 + (v / Int32.ofInt 1 - v / Int32.ofInt 1 / c8 10 * c8 10)))) Y g) _
        iterate 3 (refine zv_step (bX4_addDigits 1) rfl rfl trivial ?_)
        refine zv_iff (by decide) ?_
        iterate 2 (refine zv_step (bX4_addDigits 1) rfl rfl trivial ?_)
        refine zv_ift (by decide) ?_
        exact zv_ret (bX4_addDigits 1) rfl rfl (Nat.zero_le _) (Nat.zero_le _) ⟨rfl, by rw [show dgW v = [c8 10 + (v / Int32.ofInt 1 - v / Int32.ofInt 1 / c8 10 * c8 10)] by unfold dgW; rw [if_pos h1, if_pos h2, if_pos h3]]; rfl⟩
      · iterate 5 (refine zv_step (bX4_addDigits 1) rfl rfl trivial ?_)
        show zV _ _ _ _ _ 39 [(3, .int 0), (2, .int (c8 10)), (0, .ref 27), (1, .int v)] [] (wX (upd O 3 (nI (q))) (updA P 28 (row)) Y g) _
        iterate 3 (refine zv_step (bX4_addDigits 1) rfl rfl trivial ?_)
        refine zv_iff (by decide) ?_
        iterate 2 (refine zv_step (bX4_addDigits 1) rfl rfl trivial ?_)
        refine zv_iff (by decide) ?_
        iterate 4 (refine zv_step (bX4_addDigits 1) rfl rfl trivial ?_)
        refine zv_step (bX4_addDigits 1) rfl rfl (by dsimp only; decide) ?_
        iterate 1 (refine zv_step (bX4_addDigits 1) rfl rfl trivial ?_)
        refine zv_step (bX4_addDigits 1) rfl rfl (by dsimp only; decide) ?_
        iterate 1 (refine zv_step (bX4_addDigits 1) rfl rfl trivial ?_)
        refine zv_V1 (bX4_addDigits 1) rfl rfl rfl rfl rfl rfl rfl ⟨rfl, rfl, rfl⟩ ⟨by decide, by decide⟩ ⟨Nat.zero_le _, Nat.zero_le _⟩ (sAdd27 O P Y g (by omega) _ _) ?_
        rintro _ _ ⟨rfl, rfl⟩
        iterate 2 (refine zv_step (bX4_addDigits 1) rfl rfl trivial ?_)
        refine zv_step (bX4_addDigits 1) rfl rfl (by dsimp only; decide) ?_
        iterate 3 (refine zv_step (bX4_addDigits 1) rfl rfl trivial ?_)
        show zV _ _ _ _ _ 39 [(3, .int 1), (2, .int ((c8 10 / c8 10))), (0, .ref 27), (1, .int v)] [] (wX (upd O 3 (nI (q + 1))) (updA P 28 (ap1 (row) (q) (c8 10 + (v / c8 10 - v / c8 10 / c8 10 * c8 10)))) Y g) _
        iterate 3 (refine zv_step (bX4_addDigits 1) rfl rfl trivial ?_)
        refine zv_iff (by decide) ?_
        iterate 2 (refine zv_step (bX4_addDigits 1) rfl rfl trivial ?_)
        refine zv_iff (by decide) ?_
        iterate 4 (refine zv_step (bX4_addDigits 1) rfl rfl trivial ?_)
        refine zv_step (bX4_addDigits 1) rfl rfl (by dsimp only; decide) ?_
        iterate 1 (refine zv_step (bX4_addDigits 1) rfl rfl trivial ?_)
        refine zv_step (bX4_addDigits 1) rfl rfl (by dsimp only; decide) ?_
        iterate 1 (refine zv_step (bX4_addDigits 1) rfl rfl trivial ?_)
        refine zv_V1 (bX4_addDigits 1) rfl rfl rfl rfl rfl rfl rfl ⟨rfl, rfl, rfl⟩ ⟨by decide, by decide⟩ ⟨Nat.zero_le _, Nat.zero_le _⟩ (sAdd27 O P Y g (by omega) _ _) ?_
        rintro _ _ ⟨rfl, rfl⟩
        iterate 2 (refine zv_step (bX4_addDigits 1) rfl rfl trivial ?_)
        refine zv_step (bX4_addDigits 1) rfl rfl (by dsimp only; decide) ?_
        iterate 3 (refine zv_step (bX4_addDigits 1) rfl rfl trivial ?_)
        show zV _ _ _ _ _ 39 [(3, .int 2), (2, .int (((c8 10 / c8 10) / c8 10))), (0, .ref 27), (1, .int v)] [] (wX (upd O 3 (nI (q + 2))) (updA P 28 (ap1 (ap1 (row) (q) (c8 10 + (v / c8 10 - v / c8 10 / c8 10 * c8 10))) (q + 1) (c8 10 + (v / (c8 10 / c8 10) - v / (c8 10 / c8 10) / c8 10 * c8 10)))) Y g) _
        iterate 3 (refine zv_step (bX4_addDigits 1) rfl rfl trivial ?_)
        refine zv_iff (by decide) ?_
        iterate 2 (refine zv_step (bX4_addDigits 1) rfl rfl trivial ?_)
        refine zv_ift (by decide) ?_
        exact zv_ret (bX4_addDigits 1) rfl rfl (Nat.zero_le _) (Nat.zero_le _) ⟨rfl, by rw [show dgW v = [c8 10 + (v / c8 10 - v / c8 10 / c8 10 * c8 10), c8 10 + (v / (c8 10 / c8 10) - v / (c8 10 / c8 10) / c8 10 * c8 10)] by unfold dgW; rw [if_pos h1, if_pos h2, if_neg h3]]; rfl⟩
    · iterate 5 (refine zv_step (bX4_addDigits 1) rfl rfl trivial ?_)
      show zV _ _ _ _ _ 39 [(3, .int 0), (2, .int (c8 100)), (0, .ref 27), (1, .int v)] [] (wX (upd O 3 (nI (q))) (updA P 28 (row)) Y g) _
      iterate 3 (refine zv_step (bX4_addDigits 1) rfl rfl trivial ?_)
      refine zv_iff (by decide) ?_
      iterate 2 (refine zv_step (bX4_addDigits 1) rfl rfl trivial ?_)
      refine zv_iff (by decide) ?_
      iterate 4 (refine zv_step (bX4_addDigits 1) rfl rfl trivial ?_)
      refine zv_step (bX4_addDigits 1) rfl rfl (by dsimp only; decide) ?_
      iterate 1 (refine zv_step (bX4_addDigits 1) rfl rfl trivial ?_)
      refine zv_step (bX4_addDigits 1) rfl rfl (by dsimp only; decide) ?_
      iterate 1 (refine zv_step (bX4_addDigits 1) rfl rfl trivial ?_)
      refine zv_V1 (bX4_addDigits 1) rfl rfl rfl rfl rfl rfl rfl ⟨rfl, rfl, rfl⟩ ⟨by decide, by decide⟩ ⟨Nat.zero_le _, Nat.zero_le _⟩ (sAdd27 O P Y g (by omega) _ _) ?_
      rintro _ _ ⟨rfl, rfl⟩
      iterate 2 (refine zv_step (bX4_addDigits 1) rfl rfl trivial ?_)
      refine zv_step (bX4_addDigits 1) rfl rfl (by dsimp only; decide) ?_
      iterate 3 (refine zv_step (bX4_addDigits 1) rfl rfl trivial ?_)
      show zV _ _ _ _ _ 39 [(3, .int 1), (2, .int ((c8 100 / c8 10))), (0, .ref 27), (1, .int v)] [] (wX (upd O 3 (nI (q + 1))) (updA P 28 (ap1 (row) (q) (c8 10 + (v / c8 100 - v / c8 100 / c8 10 * c8 10)))) Y g) _
      iterate 3 (refine zv_step (bX4_addDigits 1) rfl rfl trivial ?_)
      refine zv_iff (by decide) ?_
      iterate 2 (refine zv_step (bX4_addDigits 1) rfl rfl trivial ?_)
      refine zv_iff (by decide) ?_
      iterate 4 (refine zv_step (bX4_addDigits 1) rfl rfl trivial ?_)
      refine zv_step (bX4_addDigits 1) rfl rfl (by dsimp only; decide) ?_
      iterate 1 (refine zv_step (bX4_addDigits 1) rfl rfl trivial ?_)
      refine zv_step (bX4_addDigits 1) rfl rfl (by dsimp only; decide) ?_
      iterate 1 (refine zv_step (bX4_addDigits 1) rfl rfl trivial ?_)
      refine zv_V1 (bX4_addDigits 1) rfl rfl rfl rfl rfl rfl rfl ⟨rfl, rfl, rfl⟩ ⟨by decide, by decide⟩ ⟨Nat.zero_le _, Nat.zero_le _⟩ (sAdd27 O P Y g (by omega) _ _) ?_
      rintro _ _ ⟨rfl, rfl⟩
      iterate 2 (refine zv_step (bX4_addDigits 1) rfl rfl trivial ?_)
      refine zv_step (bX4_addDigits 1) rfl rfl (by dsimp only; decide) ?_
      iterate 3 (refine zv_step (bX4_addDigits 1) rfl rfl trivial ?_)
      show zV _ _ _ _ _ 39 [(3, .int 2), (2, .int (((c8 100 / c8 10) / c8 10))), (0, .ref 27), (1, .int v)] [] (wX (upd O 3 (nI (q + 2))) (updA P 28 (ap1 (ap1 (row) (q) (c8 10 + (v / c8 100 - v / c8 100 / c8 10 * c8 10))) (q + 1) (c8 10 + (v / (c8 100 / c8 10) - v / (c8 100 / c8 10) / c8 10 * c8 10)))) Y g) _
      iterate 3 (refine zv_step (bX4_addDigits 1) rfl rfl trivial ?_)
      refine zv_iff (by decide) ?_
      iterate 2 (refine zv_step (bX4_addDigits 1) rfl rfl trivial ?_)
      refine zv_iff (by decide) ?_
      iterate 4 (refine zv_step (bX4_addDigits 1) rfl rfl trivial ?_)
      refine zv_step (bX4_addDigits 1) rfl rfl (by dsimp only; decide) ?_
      iterate 1 (refine zv_step (bX4_addDigits 1) rfl rfl trivial ?_)
      refine zv_step (bX4_addDigits 1) rfl rfl (by dsimp only; decide) ?_
      iterate 1 (refine zv_step (bX4_addDigits 1) rfl rfl trivial ?_)
      refine zv_V1 (bX4_addDigits 1) rfl rfl rfl rfl rfl rfl rfl ⟨rfl, rfl, rfl⟩ ⟨by decide, by decide⟩ ⟨Nat.zero_le _, Nat.zero_le _⟩ (sAdd27 O P Y g (by omega) _ _) ?_
      rintro _ _ ⟨rfl, rfl⟩
      iterate 2 (refine zv_step (bX4_addDigits 1) rfl rfl trivial ?_)
      refine zv_step (bX4_addDigits 1) rfl rfl (by dsimp only; decide) ?_
      iterate 3 (refine zv_step (bX4_addDigits 1) rfl rfl trivial ?_)
      show zV _ _ _ _ _ 39 [(3, .int 3), (2, .int ((((c8 100 / c8 10) / c8 10) / c8 10))), (0, .ref 27), (1, .int v)] [] (wX (upd O 3 (nI (q + 3))) (updA P 28 (ap1 (ap1 (ap1 (row) (q) (c8 10 + (v / c8 100 - v / c8 100 / c8 10 * c8 10))) (q + 1) (c8 10 + (v / (c8 100 / c8 10) - v / (c8 100 / c8 10) / c8 10 * c8 10))) (q + 2) (c8 10 + (v / ((c8 100 / c8 10) / c8 10) - v / ((c8 100 / c8 10) / c8 10) / c8 10 * c8 10)))) Y g) _
      iterate 3 (refine zv_step (bX4_addDigits 1) rfl rfl trivial ?_)
      refine zv_iff (by decide) ?_
      iterate 2 (refine zv_step (bX4_addDigits 1) rfl rfl trivial ?_)
      refine zv_ift (by decide) ?_
      exact zv_ret (bX4_addDigits 1) rfl rfl (Nat.zero_le _) (Nat.zero_le _) ⟨rfl, by rw [show dgW v = [c8 10 + (v / c8 100 - v / c8 100 / c8 10 * c8 10), c8 10 + (v / (c8 100 / c8 10) - v / (c8 100 / c8 10) / c8 10 * c8 10), c8 10 + (v / ((c8 100 / c8 10) / c8 10) - v / ((c8 100 / c8 10) / c8 10) / c8 10 * c8 10)] by unfold dgW; rw [if_pos h1, if_neg h2]]; rfl⟩
  · iterate 5 (refine zv_step (bX4_addDigits 1) rfl rfl trivial ?_)
    show zV _ _ _ _ _ 39 [(3, .int 0), (2, .int ((Int16.ofInt 1000).toInt32)), (0, .ref 27), (1, .int v)] [] (wX (upd O 3 (nI (q))) (updA P 28 (row)) Y g) _
    iterate 3 (refine zv_step (bX4_addDigits 1) rfl rfl trivial ?_)
    refine zv_iff (by decide) ?_
    iterate 2 (refine zv_step (bX4_addDigits 1) rfl rfl trivial ?_)
    refine zv_iff (by decide) ?_
    iterate 4 (refine zv_step (bX4_addDigits 1) rfl rfl trivial ?_)
    refine zv_step (bX4_addDigits 1) rfl rfl (by dsimp only; decide) ?_
    iterate 1 (refine zv_step (bX4_addDigits 1) rfl rfl trivial ?_)
    refine zv_step (bX4_addDigits 1) rfl rfl (by dsimp only; decide) ?_
    iterate 1 (refine zv_step (bX4_addDigits 1) rfl rfl trivial ?_)
    refine zv_V1 (bX4_addDigits 1) rfl rfl rfl rfl rfl rfl rfl ⟨rfl, rfl, rfl⟩ ⟨by decide, by decide⟩ ⟨Nat.zero_le _, Nat.zero_le _⟩ (sAdd27 O P Y g (by omega) _ _) ?_
    rintro _ _ ⟨rfl, rfl⟩
    iterate 2 (refine zv_step (bX4_addDigits 1) rfl rfl trivial ?_)
    refine zv_step (bX4_addDigits 1) rfl rfl (by dsimp only; decide) ?_
    iterate 3 (refine zv_step (bX4_addDigits 1) rfl rfl trivial ?_)
    show zV _ _ _ _ _ 39 [(3, .int 1), (2, .int (((Int16.ofInt 1000).toInt32 / c8 10))), (0, .ref 27), (1, .int v)] [] (wX (upd O 3 (nI (q + 1))) (updA P 28 (ap1 (row) (q) (c8 10 + (v / (Int16.ofInt 1000).toInt32 - v / (Int16.ofInt 1000).toInt32 / c8 10 * c8 10)))) Y g) _
    iterate 3 (refine zv_step (bX4_addDigits 1) rfl rfl trivial ?_)
    refine zv_iff (by decide) ?_
    iterate 2 (refine zv_step (bX4_addDigits 1) rfl rfl trivial ?_)
    refine zv_iff (by decide) ?_
    iterate 4 (refine zv_step (bX4_addDigits 1) rfl rfl trivial ?_)
    refine zv_step (bX4_addDigits 1) rfl rfl (by dsimp only; decide) ?_
    iterate 1 (refine zv_step (bX4_addDigits 1) rfl rfl trivial ?_)
    refine zv_step (bX4_addDigits 1) rfl rfl (by dsimp only; decide) ?_
    iterate 1 (refine zv_step (bX4_addDigits 1) rfl rfl trivial ?_)
    refine zv_V1 (bX4_addDigits 1) rfl rfl rfl rfl rfl rfl rfl ⟨rfl, rfl, rfl⟩ ⟨by decide, by decide⟩ ⟨Nat.zero_le _, Nat.zero_le _⟩ (sAdd27 O P Y g (by omega) _ _) ?_
    rintro _ _ ⟨rfl, rfl⟩
    iterate 2 (refine zv_step (bX4_addDigits 1) rfl rfl trivial ?_)
    refine zv_step (bX4_addDigits 1) rfl rfl (by dsimp only; decide) ?_
    iterate 3 (refine zv_step (bX4_addDigits 1) rfl rfl trivial ?_)
    show zV _ _ _ _ _ 39 [(3, .int 2), (2, .int ((((Int16.ofInt 1000).toInt32 / c8 10) / c8 10))), (0, .ref 27), (1, .int v)] [] (wX (upd O 3 (nI (q + 2))) (updA P 28 (ap1 (ap1 (row) (q) (c8 10 + (v / (Int16.ofInt 1000).toInt32 - v / (Int16.ofInt 1000).toInt32 / c8 10 * c8 10))) (q + 1) (c8 10 + (v / ((Int16.ofInt 1000).toInt32 / c8 10) - v / ((Int16.ofInt 1000).toInt32 / c8 10) / c8 10 * c8 10)))) Y g) _
    iterate 3 (refine zv_step (bX4_addDigits 1) rfl rfl trivial ?_)
    refine zv_iff (by decide) ?_
    iterate 2 (refine zv_step (bX4_addDigits 1) rfl rfl trivial ?_)
    refine zv_iff (by decide) ?_
    iterate 4 (refine zv_step (bX4_addDigits 1) rfl rfl trivial ?_)
    refine zv_step (bX4_addDigits 1) rfl rfl (by dsimp only; decide) ?_
    iterate 1 (refine zv_step (bX4_addDigits 1) rfl rfl trivial ?_)
    refine zv_step (bX4_addDigits 1) rfl rfl (by dsimp only; decide) ?_
    iterate 1 (refine zv_step (bX4_addDigits 1) rfl rfl trivial ?_)
    refine zv_V1 (bX4_addDigits 1) rfl rfl rfl rfl rfl rfl rfl ⟨rfl, rfl, rfl⟩ ⟨by decide, by decide⟩ ⟨Nat.zero_le _, Nat.zero_le _⟩ (sAdd27 O P Y g (by omega) _ _) ?_
    rintro _ _ ⟨rfl, rfl⟩
    iterate 2 (refine zv_step (bX4_addDigits 1) rfl rfl trivial ?_)
    refine zv_step (bX4_addDigits 1) rfl rfl (by dsimp only; decide) ?_
    iterate 3 (refine zv_step (bX4_addDigits 1) rfl rfl trivial ?_)
    show zV _ _ _ _ _ 39 [(3, .int 3), (2, .int (((((Int16.ofInt 1000).toInt32 / c8 10) / c8 10) / c8 10))), (0, .ref 27), (1, .int v)] [] (wX (upd O 3 (nI (q + 3))) (updA P 28 (ap1 (ap1 (ap1 (row) (q) (c8 10 + (v / (Int16.ofInt 1000).toInt32 - v / (Int16.ofInt 1000).toInt32 / c8 10 * c8 10))) (q + 1) (c8 10 + (v / ((Int16.ofInt 1000).toInt32 / c8 10) - v / ((Int16.ofInt 1000).toInt32 / c8 10) / c8 10 * c8 10))) (q + 2) (c8 10 + (v / (((Int16.ofInt 1000).toInt32 / c8 10) / c8 10) - v / (((Int16.ofInt 1000).toInt32 / c8 10) / c8 10) / c8 10 * c8 10)))) Y g) _
    iterate 3 (refine zv_step (bX4_addDigits 1) rfl rfl trivial ?_)
    refine zv_iff (by decide) ?_
    iterate 2 (refine zv_step (bX4_addDigits 1) rfl rfl trivial ?_)
    refine zv_iff (by decide) ?_
    iterate 4 (refine zv_step (bX4_addDigits 1) rfl rfl trivial ?_)
    refine zv_step (bX4_addDigits 1) rfl rfl (by dsimp only; decide) ?_
    iterate 1 (refine zv_step (bX4_addDigits 1) rfl rfl trivial ?_)
    refine zv_step (bX4_addDigits 1) rfl rfl (by dsimp only; decide) ?_
    iterate 1 (refine zv_step (bX4_addDigits 1) rfl rfl trivial ?_)
    refine zv_V1 (bX4_addDigits 1) rfl rfl rfl rfl rfl rfl rfl ⟨rfl, rfl, rfl⟩ ⟨by decide, by decide⟩ ⟨Nat.zero_le _, Nat.zero_le _⟩ (sAdd27 O P Y g (by omega) _ _) ?_
    rintro _ _ ⟨rfl, rfl⟩
    iterate 2 (refine zv_step (bX4_addDigits 1) rfl rfl trivial ?_)
    refine zv_step (bX4_addDigits 1) rfl rfl (by dsimp only; decide) ?_
    iterate 3 (refine zv_step (bX4_addDigits 1) rfl rfl trivial ?_)
    show zV _ _ _ _ _ 39 [(3, .int 4), (2, .int ((((((Int16.ofInt 1000).toInt32 / c8 10) / c8 10) / c8 10) / c8 10))), (0, .ref 27), (1, .int v)] [] (wX (upd O 3 (nI (q + 4))) (updA P 28 (ap1 (ap1 (ap1 (ap1 (row) (q) (c8 10 + (v / (Int16.ofInt 1000).toInt32 - v / (Int16.ofInt 1000).toInt32 / c8 10 * c8 10))) (q + 1) (c8 10 + (v / ((Int16.ofInt 1000).toInt32 / c8 10) - v / ((Int16.ofInt 1000).toInt32 / c8 10) / c8 10 * c8 10))) (q + 2) (c8 10 + (v / (((Int16.ofInt 1000).toInt32 / c8 10) / c8 10) - v / (((Int16.ofInt 1000).toInt32 / c8 10) / c8 10) / c8 10 * c8 10))) (q + 3) (c8 10 + (v / ((((Int16.ofInt 1000).toInt32 / c8 10) / c8 10) / c8 10) - v / ((((Int16.ofInt 1000).toInt32 / c8 10) / c8 10) / c8 10) / c8 10 * c8 10)))) Y g) _
    iterate 3 (refine zv_step (bX4_addDigits 1) rfl rfl trivial ?_)
    refine zv_ift (by decide) ?_
    exact zv_ret (bX4_addDigits 1) rfl rfl (Nat.zero_le _) (Nat.zero_le _) ⟨rfl, by rw [show dgW v = [c8 10 + (v / (Int16.ofInt 1000).toInt32 - v / (Int16.ofInt 1000).toInt32 / c8 10 * c8 10), c8 10 + (v / ((Int16.ofInt 1000).toInt32 / c8 10) - v / ((Int16.ofInt 1000).toInt32 / c8 10) / c8 10 * c8 10), c8 10 + (v / (((Int16.ofInt 1000).toInt32 / c8 10) / c8 10) - v / (((Int16.ofInt 1000).toInt32 / c8 10) / c8 10) / c8 10 * c8 10), c8 10 + (v / ((((Int16.ofInt 1000).toInt32 / c8 10) / c8 10) / c8 10) - v / ((((Int16.ofInt 1000).toInt32 / c8 10) / c8 10) / c8 10) / c8 10 * c8 10)] by unfold dgW; rw [if_neg h1]]; rfl⟩
end
section
set_option maxHeartbeats 1000000 in
set_option maxRecDepth 20000 in
theorem sAdd29 (O : Nat → Int32) (P : Nat → Nat → Int32) (Y : Nat → Nat → Int64) (g : Nat → zC) {q : Nat} (hq : q + 1 < 2 ^ 31) (row : Nat → Int32) (v : Int32) : zK 0 zX4_add [.ref 29, .int v] (wX (upd O 6 (nI (q))) (updA P 30 (row)) Y g) (fun r w' => r = none ∧ w' = (wX (upd O 6 (nI (q + 1))) (updA P 30 (ap1 row q v)) Y g)) := by
  refine zK_of qX4_add (by decide +kernel) rfl ?_
  iterate 4 (refine zv_step (bX4_add 0) rfl rfl trivial ?_)
  refine zv_ifb (fun hc => ?_) (fun hc => ?_)
  · have hc : c8 80 ≤ nI q := hc
    rw [e80, nI_leI (by decide) (by omega)] at hc
    iterate 6 (refine zv_step (bX4_add 0) rfl rfl trivial ?_)
    exact zv_ret (bX4_add 0) rfl rfl (Nat.zero_le _) (Nat.zero_le _) ⟨rfl, by unfold ap1; rw [if_neg (by omega), ← nI_1]; rfl⟩
  · have hc : ¬ c8 80 ≤ nI q := hc
    rw [e80, nI_leI (by decide) (by omega)] at hc
    iterate 5 (refine zv_step (bX4_add 0) rfl rfl trivial ?_)
    refine zv_step (bX4_add 0) rfl rfl (show vp_in (nI q) 80 from vp_in_nI (by omega) (by decide)) ?_
    iterate 6 (refine zv_step (bX4_add 0) rfl rfl trivial ?_)
    exact zv_ret (bX4_add 0) rfl rfl (Nat.zero_le _) (Nat.zero_le _) ⟨rfl, by unfold ap1; rw [if_pos (by omega)]; show wX (upd O 6 (nI q + Int32.ofInt 1)) (updA P 30 (upd row (nI q).toNatClampNeg v)) Y g = _; rw [nI_clamp (by omega), show nI q + Int32.ofInt 1 = nI (q + 1) from nI_1 q]⟩
set_option maxHeartbeats 1000000 in
set_option maxRecDepth 20000 in
theorem sLong29 (O : Nat → Int32) (P : Nat → Nat → Int32) (Y : Nat → Nat → Int64) (g : Nat → zC) : zK 0 zX4_isTooLong [.ref 29] (wX O P Y g) (fun r w' => w' = wX O P Y g ∧ ((80 < (O 6).toInt ∧ r = some (.int 1)) ∨ (¬ 80 < (O 6).toInt ∧ r = some (.int 0)))) := by
  refine zK_of qX4_isTooLong (by decide +kernel) rfl ?_
  iterate 4 (refine zv_step (bX4_isTooLong 0) rfl rfl trivial ?_)
  refine zv_ifb (fun hc => ?_) (fun hc => ?_)
  · have hc : O 6 ≤ c8 80 := hc
    rw [Int32.le_iff_toInt_le, i8c 80 (by decide)] at hc
    iterate 1 (refine zv_step (bX4_isTooLong 0) rfl rfl trivial ?_)
    exact zv_iret (bX4_isTooLong 0) rfl (Or.inr ⟨rfl, Or.inl rfl⟩) (Nat.zero_le _) (Nat.zero_le _) ⟨rfl, Or.inr ⟨by omega, rfl⟩⟩
  · have hc : ¬ O 6 ≤ c8 80 := hc
    rw [Int32.le_iff_toInt_le, i8c 80 (by decide)] at hc
    iterate 2 (refine zv_step (bX4_isTooLong 0) rfl rfl trivial ?_)
    exact zv_iret (bX4_isTooLong 0) rfl (Or.inr ⟨rfl, Or.inr rfl⟩) (Nat.zero_le _) (Nat.zero_le _) ⟨rfl, Or.inl ⟨by omega, rfl⟩⟩
set_option maxHeartbeats 1000000 in
set_option maxRecDepth 20000 in
theorem sDigits29 (O : Nat → Int32) (P : Nat → Nat → Int32) (Y : Nat → Nat → Int64) (g : Nat → zC) {q : Nat} (hq : q + 4 < 2 ^ 31) (row : Nat → Int32) (v : Int32) : zK 1 zX4_addDigits [.ref 29, .int v] (wX (upd O 6 (nI (q))) (updA P 30 (row)) Y g) (fun r w' => r = none ∧ w' = (wX (upd O 6 (nI (q + (dgW v).length))) (updA P 30 (ap8 row q (dgW v))) Y g)) := by
  refine zK_of qX4_addDigits (by decide +kernel) rfl ?_
  iterate 3 (refine zv_step (bX4_addDigits 1) rfl rfl trivial ?_)
  refine zv_ifb (fun h1 => ?_) (fun h1 => ?_)
  · iterate 3 (refine zv_step (bX4_addDigits 1) rfl rfl trivial ?_)
    refine zv_ifb (fun h2 => ?_) (fun h2 => ?_)
    · iterate 3 (refine zv_step (bX4_addDigits 1) rfl rfl trivial ?_)
      refine zv_ifb (fun h3 => ?_) (fun h3 => ?_)
      · iterate 4 (refine zv_step (bX4_addDigits 1) rfl rfl trivial ?_)
        show zV _ _ _ _ _ 39 [(3, .int 0), (2, .int (Int32.ofInt 1)), (0, .ref 29), (1, .int v)] [] (wX (upd O 6 (nI (q))) (updA P 30 (row)) Y g) _
        iterate 3 (refine zv_step (bX4_addDigits 1) rfl rfl trivial ?_)
        refine zv_iff (by decide) ?_
        iterate 2 (refine zv_step (bX4_addDigits 1) rfl rfl trivial ?_)
        refine zv_iff (by decide) ?_
        iterate 4 (refine zv_step (bX4_addDigits 1) rfl rfl trivial ?_)
        refine zv_step (bX4_addDigits 1) rfl rfl (by dsimp only; decide) ?_
        iterate 1 (refine zv_step (bX4_addDigits 1) rfl rfl trivial ?_)
        refine zv_step (bX4_addDigits 1) rfl rfl (by dsimp only; decide) ?_
        iterate 1 (refine zv_step (bX4_addDigits 1) rfl rfl trivial ?_)
        refine zv_V1 (bX4_addDigits 1) rfl rfl rfl rfl rfl rfl rfl ⟨rfl, rfl, rfl⟩ ⟨by decide, by decide⟩ ⟨Nat.zero_le _, Nat.zero_le _⟩ (sAdd29 O P Y g (by omega) _ _) ?_
        rintro _ _ ⟨rfl, rfl⟩
        iterate 2 (refine zv_step (bX4_addDigits 1) rfl rfl trivial ?_)
        refine zv_step (bX4_addDigits 1) rfl rfl (by dsimp only; decide) ?_
        iterate 3 (refine zv_step (bX4_addDigits 1) rfl rfl trivial ?_)
        show zV _ _ _ _ _ 39 [(3, .int 1), (2, .int ((Int32.ofInt 1 / c8 10))), (0, .ref 29), (1, .int v)] [] (wX (upd O 6 (nI (q + 1))) (updA P 30 (ap1 (row) (q) (c8 10 + (v / Int32.ofInt 1 - v / Int32.ofInt 1 / c8 10 * c8 10)))) Y g) _
        iterate 3 (refine zv_step (bX4_addDigits 1) rfl rfl trivial ?_)
        refine zv_iff (by decide) ?_
        iterate 2 (refine zv_step (bX4_addDigits 1) rfl rfl trivial ?_)
        refine zv_ift (by decide) ?_
        exact zv_ret (bX4_addDigits 1) rfl rfl (Nat.zero_le _) (Nat.zero_le _) ⟨rfl, by rw [show dgW v = [c8 10 + (v / Int32.ofInt 1 - v / Int32.ofInt 1 / c8 10 * c8 10)] by unfold dgW; rw [if_pos h1, if_pos h2, if_pos h3]]; rfl⟩
      · iterate 5 (refine zv_step (bX4_addDigits 1) rfl rfl trivial ?_)
        show zV _ _ _ _ _ 39 [(3, .int 0), (2, .int (c8 10)), (0, .ref 29), (1, .int v)] [] (wX (upd O 6 (nI (q))) (updA P 30 (row)) Y g) _
        iterate 3 (refine zv_step (bX4_addDigits 1) rfl rfl trivial ?_)
        refine zv_iff (by decide) ?_
        iterate 2 (refine zv_step (bX4_addDigits 1) rfl rfl trivial ?_)
        refine zv_iff (by decide) ?_
        iterate 4 (refine zv_step (bX4_addDigits 1) rfl rfl trivial ?_)
        refine zv_step (bX4_addDigits 1) rfl rfl (by dsimp only; decide) ?_
        iterate 1 (refine zv_step (bX4_addDigits 1) rfl rfl trivial ?_)
        refine zv_step (bX4_addDigits 1) rfl rfl (by dsimp only; decide) ?_
        iterate 1 (refine zv_step (bX4_addDigits 1) rfl rfl trivial ?_)
        refine zv_V1 (bX4_addDigits 1) rfl rfl rfl rfl rfl rfl rfl ⟨rfl, rfl, rfl⟩ ⟨by decide, by decide⟩ ⟨Nat.zero_le _, Nat.zero_le _⟩ (sAdd29 O P Y g (by omega) _ _) ?_
        rintro _ _ ⟨rfl, rfl⟩
        iterate 2 (refine zv_step (bX4_addDigits 1) rfl rfl trivial ?_)
        refine zv_step (bX4_addDigits 1) rfl rfl (by dsimp only; decide) ?_
        iterate 3 (refine zv_step (bX4_addDigits 1) rfl rfl trivial ?_)
        show zV _ _ _ _ _ 39 [(3, .int 1), (2, .int ((c8 10 / c8 10))), (0, .ref 29), (1, .int v)] [] (wX (upd O 6 (nI (q + 1))) (updA P 30 (ap1 (row) (q) (c8 10 + (v / c8 10 - v / c8 10 / c8 10 * c8 10)))) Y g) _
        iterate 3 (refine zv_step (bX4_addDigits 1) rfl rfl trivial ?_)
        refine zv_iff (by decide) ?_
        iterate 2 (refine zv_step (bX4_addDigits 1) rfl rfl trivial ?_)
        refine zv_iff (by decide) ?_
        iterate 4 (refine zv_step (bX4_addDigits 1) rfl rfl trivial ?_)
        refine zv_step (bX4_addDigits 1) rfl rfl (by dsimp only; decide) ?_
        iterate 1 (refine zv_step (bX4_addDigits 1) rfl rfl trivial ?_)
        refine zv_step (bX4_addDigits 1) rfl rfl (by dsimp only; decide) ?_
        iterate 1 (refine zv_step (bX4_addDigits 1) rfl rfl trivial ?_)
        refine zv_V1 (bX4_addDigits 1) rfl rfl rfl rfl rfl rfl rfl ⟨rfl, rfl, rfl⟩ ⟨by decide, by decide⟩ ⟨Nat.zero_le _, Nat.zero_le _⟩ (sAdd29 O P Y g (by omega) _ _) ?_
        rintro _ _ ⟨rfl, rfl⟩
        iterate 2 (refine zv_step (bX4_addDigits 1) rfl rfl trivial ?_)
        refine zv_step (bX4_addDigits 1) rfl rfl (by dsimp only; decide) ?_
        iterate 3 (refine zv_step (bX4_addDigits 1) rfl rfl trivial ?_)
        show zV _ _ _ _ _ 39 [(3, .int 2), (2, .int (((c8 10 / c8 10) / c8 10))), (0, .ref 29), (1, .int v)] [] (wX (upd O 6 (nI (q + 2))) (updA P 30 (ap1 (ap1 (row) (q) (c8 10 + (v / c8 10 - v / c8 10 / c8 10 * c8 10))) (q + 1) (c8 10 + (v / (c8 10 / c8 10) - v / (c8 10 / c8 10) / c8 10 * c8 10)))) Y g) _
        iterate 3 (refine zv_step (bX4_addDigits 1) rfl rfl trivial ?_)
        refine zv_iff (by decide) ?_
        iterate 2 (refine zv_step (bX4_addDigits 1) rfl rfl trivial ?_)
        refine zv_ift (by decide) ?_
        exact zv_ret (bX4_addDigits 1) rfl rfl (Nat.zero_le _) (Nat.zero_le _) ⟨rfl, by rw [show dgW v = [c8 10 + (v / c8 10 - v / c8 10 / c8 10 * c8 10), c8 10 + (v / (c8 10 / c8 10) - v / (c8 10 / c8 10) / c8 10 * c8 10)] by unfold dgW; rw [if_pos h1, if_pos h2, if_neg h3]]; rfl⟩
    · iterate 5 (refine zv_step (bX4_addDigits 1) rfl rfl trivial ?_)
      show zV _ _ _ _ _ 39 [(3, .int 0), (2, .int (c8 100)), (0, .ref 29), (1, .int v)] [] (wX (upd O 6 (nI (q))) (updA P 30 (row)) Y g) _
      iterate 3 (refine zv_step (bX4_addDigits 1) rfl rfl trivial ?_)
      refine zv_iff (by decide) ?_
      iterate 2 (refine zv_step (bX4_addDigits 1) rfl rfl trivial ?_)
      refine zv_iff (by decide) ?_
      iterate 4 (refine zv_step (bX4_addDigits 1) rfl rfl trivial ?_)
      refine zv_step (bX4_addDigits 1) rfl rfl (by dsimp only; decide) ?_
      iterate 1 (refine zv_step (bX4_addDigits 1) rfl rfl trivial ?_)
      refine zv_step (bX4_addDigits 1) rfl rfl (by dsimp only; decide) ?_
      iterate 1 (refine zv_step (bX4_addDigits 1) rfl rfl trivial ?_)
      refine zv_V1 (bX4_addDigits 1) rfl rfl rfl rfl rfl rfl rfl ⟨rfl, rfl, rfl⟩ ⟨by decide, by decide⟩ ⟨Nat.zero_le _, Nat.zero_le _⟩ (sAdd29 O P Y g (by omega) _ _) ?_
      rintro _ _ ⟨rfl, rfl⟩
      iterate 2 (refine zv_step (bX4_addDigits 1) rfl rfl trivial ?_)
      refine zv_step (bX4_addDigits 1) rfl rfl (by dsimp only; decide) ?_
      iterate 3 (refine zv_step (bX4_addDigits 1) rfl rfl trivial ?_)
      show zV _ _ _ _ _ 39 [(3, .int 1), (2, .int ((c8 100 / c8 10))), (0, .ref 29), (1, .int v)] [] (wX (upd O 6 (nI (q + 1))) (updA P 30 (ap1 (row) (q) (c8 10 + (v / c8 100 - v / c8 100 / c8 10 * c8 10)))) Y g) _
      iterate 3 (refine zv_step (bX4_addDigits 1) rfl rfl trivial ?_)
      refine zv_iff (by decide) ?_
      iterate 2 (refine zv_step (bX4_addDigits 1) rfl rfl trivial ?_)
      refine zv_iff (by decide) ?_
      iterate 4 (refine zv_step (bX4_addDigits 1) rfl rfl trivial ?_)
      refine zv_step (bX4_addDigits 1) rfl rfl (by dsimp only; decide) ?_
      iterate 1 (refine zv_step (bX4_addDigits 1) rfl rfl trivial ?_)
      refine zv_step (bX4_addDigits 1) rfl rfl (by dsimp only; decide) ?_
      iterate 1 (refine zv_step (bX4_addDigits 1) rfl rfl trivial ?_)
      refine zv_V1 (bX4_addDigits 1) rfl rfl rfl rfl rfl rfl rfl ⟨rfl, rfl, rfl⟩ ⟨by decide, by decide⟩ ⟨Nat.zero_le _, Nat.zero_le _⟩ (sAdd29 O P Y g (by omega) _ _) ?_
      rintro _ _ ⟨rfl, rfl⟩
      iterate 2 (refine zv_step (bX4_addDigits 1) rfl rfl trivial ?_)
      refine zv_step (bX4_addDigits 1) rfl rfl (by dsimp only; decide) ?_
      iterate 3 (refine zv_step (bX4_addDigits 1) rfl rfl trivial ?_)
      show zV _ _ _ _ _ 39 [(3, .int 2), (2, .int (((c8 100 / c8 10) / c8 10))), (0, .ref 29), (1, .int v)] [] (wX (upd O 6 (nI (q + 2))) (updA P 30 (ap1 (ap1 (row) (q) (c8 10 + (v / c8 100 - v / c8 100 / c8 10 * c8 10))) (q + 1) (c8 10 + (v / (c8 100 / c8 10) - v / (c8 100 / c8 10) / c8 10 * c8 10)))) Y g) _
      iterate 3 (refine zv_step (bX4_addDigits 1) rfl rfl trivial ?_)
      refine zv_iff (by decide) ?_
      iterate 2 (refine zv_step (bX4_addDigits 1) rfl rfl trivial ?_)
      refine zv_iff (by decide) ?_
      iterate 4 (refine zv_step (bX4_addDigits 1) rfl rfl trivial ?_)
      refine zv_step (bX4_addDigits 1) rfl rfl (by dsimp only; decide) ?_
      iterate 1 (refine zv_step (bX4_addDigits 1) rfl rfl trivial ?_)
      refine zv_step (bX4_addDigits 1) rfl rfl (by dsimp only; decide) ?_
      iterate 1 (refine zv_step (bX4_addDigits 1) rfl rfl trivial ?_)
      refine zv_V1 (bX4_addDigits 1) rfl rfl rfl rfl rfl rfl rfl ⟨rfl, rfl, rfl⟩ ⟨by decide, by decide⟩ ⟨Nat.zero_le _, Nat.zero_le _⟩ (sAdd29 O P Y g (by omega) _ _) ?_
      rintro _ _ ⟨rfl, rfl⟩
      iterate 2 (refine zv_step (bX4_addDigits 1) rfl rfl trivial ?_)
      refine zv_step (bX4_addDigits 1) rfl rfl (by dsimp only; decide) ?_
      iterate 3 (refine zv_step (bX4_addDigits 1) rfl rfl trivial ?_)
      show zV _ _ _ _ _ 39 [(3, .int 3), (2, .int ((((c8 100 / c8 10) / c8 10) / c8 10))), (0, .ref 29), (1, .int v)] [] (wX (upd O 6 (nI (q + 3))) (updA P 30 (ap1 (ap1 (ap1 (row) (q) (c8 10 + (v / c8 100 - v / c8 100 / c8 10 * c8 10))) (q + 1) (c8 10 + (v / (c8 100 / c8 10) - v / (c8 100 / c8 10) / c8 10 * c8 10))) (q + 2) (c8 10 + (v / ((c8 100 / c8 10) / c8 10) - v / ((c8 100 / c8 10) / c8 10) / c8 10 * c8 10)))) Y g) _
      iterate 3 (refine zv_step (bX4_addDigits 1) rfl rfl trivial ?_)
      refine zv_iff (by decide) ?_
      iterate 2 (refine zv_step (bX4_addDigits 1) rfl rfl trivial ?_)
      refine zv_ift (by decide) ?_
      exact zv_ret (bX4_addDigits 1) rfl rfl (Nat.zero_le _) (Nat.zero_le _) ⟨rfl, by rw [show dgW v = [c8 10 + (v / c8 100 - v / c8 100 / c8 10 * c8 10), c8 10 + (v / (c8 100 / c8 10) - v / (c8 100 / c8 10) / c8 10 * c8 10), c8 10 + (v / ((c8 100 / c8 10) / c8 10) - v / ((c8 100 / c8 10) / c8 10) / c8 10 * c8 10)] by unfold dgW; rw [if_pos h1, if_neg h2]]; rfl⟩
  · iterate 5 (refine zv_step (bX4_addDigits 1) rfl rfl trivial ?_)
    show zV _ _ _ _ _ 39 [(3, .int 0), (2, .int ((Int16.ofInt 1000).toInt32)), (0, .ref 29), (1, .int v)] [] (wX (upd O 6 (nI (q))) (updA P 30 (row)) Y g) _
    iterate 3 (refine zv_step (bX4_addDigits 1) rfl rfl trivial ?_)
    refine zv_iff (by decide) ?_
    iterate 2 (refine zv_step (bX4_addDigits 1) rfl rfl trivial ?_)
    refine zv_iff (by decide) ?_
    iterate 4 (refine zv_step (bX4_addDigits 1) rfl rfl trivial ?_)
    refine zv_step (bX4_addDigits 1) rfl rfl (by dsimp only; decide) ?_
    iterate 1 (refine zv_step (bX4_addDigits 1) rfl rfl trivial ?_)
    refine zv_step (bX4_addDigits 1) rfl rfl (by dsimp only; decide) ?_
    iterate 1 (refine zv_step (bX4_addDigits 1) rfl rfl trivial ?_)
    refine zv_V1 (bX4_addDigits 1) rfl rfl rfl rfl rfl rfl rfl ⟨rfl, rfl, rfl⟩ ⟨by decide, by decide⟩ ⟨Nat.zero_le _, Nat.zero_le _⟩ (sAdd29 O P Y g (by omega) _ _) ?_
    rintro _ _ ⟨rfl, rfl⟩
    iterate 2 (refine zv_step (bX4_addDigits 1) rfl rfl trivial ?_)
    refine zv_step (bX4_addDigits 1) rfl rfl (by dsimp only; decide) ?_
    iterate 3 (refine zv_step (bX4_addDigits 1) rfl rfl trivial ?_)
    show zV _ _ _ _ _ 39 [(3, .int 1), (2, .int (((Int16.ofInt 1000).toInt32 / c8 10))), (0, .ref 29), (1, .int v)] [] (wX (upd O 6 (nI (q + 1))) (updA P 30 (ap1 (row) (q) (c8 10 + (v / (Int16.ofInt 1000).toInt32 - v / (Int16.ofInt 1000).toInt32 / c8 10 * c8 10)))) Y g) _
    iterate 3 (refine zv_step (bX4_addDigits 1) rfl rfl trivial ?_)
    refine zv_iff (by decide) ?_
    iterate 2 (refine zv_step (bX4_addDigits 1) rfl rfl trivial ?_)
    refine zv_iff (by decide) ?_
    iterate 4 (refine zv_step (bX4_addDigits 1) rfl rfl trivial ?_)
    refine zv_step (bX4_addDigits 1) rfl rfl (by dsimp only; decide) ?_
    iterate 1 (refine zv_step (bX4_addDigits 1) rfl rfl trivial ?_)
    refine zv_step (bX4_addDigits 1) rfl rfl (by dsimp only; decide) ?_
    iterate 1 (refine zv_step (bX4_addDigits 1) rfl rfl trivial ?_)
    refine zv_V1 (bX4_addDigits 1) rfl rfl rfl rfl rfl rfl rfl ⟨rfl, rfl, rfl⟩ ⟨by decide, by decide⟩ ⟨Nat.zero_le _, Nat.zero_le _⟩ (sAdd29 O P Y g (by omega) _ _) ?_
    rintro _ _ ⟨rfl, rfl⟩
    iterate 2 (refine zv_step (bX4_addDigits 1) rfl rfl trivial ?_)
    refine zv_step (bX4_addDigits 1) rfl rfl (by dsimp only; decide) ?_
    iterate 3 (refine zv_step (bX4_addDigits 1) rfl rfl trivial ?_)
    show zV _ _ _ _ _ 39 [(3, .int 2), (2, .int ((((Int16.ofInt 1000).toInt32 / c8 10) / c8 10))), (0, .ref 29), (1, .int v)] [] (wX (upd O 6 (nI (q + 2))) (updA P 30 (ap1 (ap1 (row) (q) (c8 10 + (v / (Int16.ofInt 1000).toInt32 - v / (Int16.ofInt 1000).toInt32 / c8 10 * c8 10))) (q + 1) (c8 10 + (v / ((Int16.ofInt 1000).toInt32 / c8 10) - v / ((Int16.ofInt 1000).toInt32 / c8 10) / c8 10 * c8 10)))) Y g) _
    iterate 3 (refine zv_step (bX4_addDigits 1) rfl rfl trivial ?_)
    refine zv_iff (by decide) ?_
    iterate 2 (refine zv_step (bX4_addDigits 1) rfl rfl trivial ?_)
    refine zv_iff (by decide) ?_
    iterate 4 (refine zv_step (bX4_addDigits 1) rfl rfl trivial ?_)
    refine zv_step (bX4_addDigits 1) rfl rfl (by dsimp only; decide) ?_
    iterate 1 (refine zv_step (bX4_addDigits 1) rfl rfl trivial ?_)
    refine zv_step (bX4_addDigits 1) rfl rfl (by dsimp only; decide) ?_
    iterate 1 (refine zv_step (bX4_addDigits 1) rfl rfl trivial ?_)
    refine zv_V1 (bX4_addDigits 1) rfl rfl rfl rfl rfl rfl rfl ⟨rfl, rfl, rfl⟩ ⟨by decide, by decide⟩ ⟨Nat.zero_le _, Nat.zero_le _⟩ (sAdd29 O P Y g (by omega) _ _) ?_
    rintro _ _ ⟨rfl, rfl⟩
    iterate 2 (refine zv_step (bX4_addDigits 1) rfl rfl trivial ?_)
    refine zv_step (bX4_addDigits 1) rfl rfl (by dsimp only; decide) ?_
    iterate 3 (refine zv_step (bX4_addDigits 1) rfl rfl trivial ?_)
    show zV _ _ _ _ _ 39 [(3, .int 3), (2, .int (((((Int16.ofInt 1000).toInt32 / c8 10) / c8 10) / c8 10))), (0, .ref 29), (1, .int v)] [] (wX (upd O 6 (nI (q + 3))) (updA P 30 (ap1 (ap1 (ap1 (row) (q) (c8 10 + (v / (Int16.ofInt 1000).toInt32 - v / (Int16.ofInt 1000).toInt32 / c8 10 * c8 10))) (q + 1) (c8 10 + (v / ((Int16.ofInt 1000).toInt32 / c8 10) - v / ((Int16.ofInt 1000).toInt32 / c8 10) / c8 10 * c8 10))) (q + 2) (c8 10 + (v / (((Int16.ofInt 1000).toInt32 / c8 10) / c8 10) - v / (((Int16.ofInt 1000).toInt32 / c8 10) / c8 10) / c8 10 * c8 10)))) Y g) _
    iterate 3 (refine zv_step (bX4_addDigits 1) rfl rfl trivial ?_)
    refine zv_iff (by decide) ?_
    iterate 2 (refine zv_step (bX4_addDigits 1) rfl rfl trivial ?_)
    refine zv_iff (by decide) ?_
    iterate 4 (refine zv_step (bX4_addDigits 1) rfl rfl trivial ?_)
    refine zv_step (bX4_addDigits 1) rfl rfl (by dsimp only; decide) ?_
    iterate 1 (refine zv_step (bX4_addDigits 1) rfl rfl trivial ?_)
    refine zv_step (bX4_addDigits 1) rfl rfl (by dsimp only; decide) ?_
    iterate 1 (refine zv_step (bX4_addDigits 1) rfl rfl trivial ?_)
    refine zv_V1 (bX4_addDigits 1) rfl rfl rfl rfl rfl rfl rfl ⟨rfl, rfl, rfl⟩ ⟨by decide, by decide⟩ ⟨Nat.zero_le _, Nat.zero_le _⟩ (sAdd29 O P Y g (by omega) _ _) ?_
    rintro _ _ ⟨rfl, rfl⟩
    iterate 2 (refine zv_step (bX4_addDigits 1) rfl rfl trivial ?_)
    refine zv_step (bX4_addDigits 1) rfl rfl (by dsimp only; decide) ?_
    iterate 3 (refine zv_step (bX4_addDigits 1) rfl rfl trivial ?_)
    show zV _ _ _ _ _ 39 [(3, .int 4), (2, .int ((((((Int16.ofInt 1000).toInt32 / c8 10) / c8 10) / c8 10) / c8 10))), (0, .ref 29), (1, .int v)] [] (wX (upd O 6 (nI (q + 4))) (updA P 30 (ap1 (ap1 (ap1 (ap1 (row) (q) (c8 10 + (v / (Int16.ofInt 1000).toInt32 - v / (Int16.ofInt 1000).toInt32 / c8 10 * c8 10))) (q + 1) (c8 10 + (v / ((Int16.ofInt 1000).toInt32 / c8 10) - v / ((Int16.ofInt 1000).toInt32 / c8 10) / c8 10 * c8 10))) (q + 2) (c8 10 + (v / (((Int16.ofInt 1000).toInt32 / c8 10) / c8 10) - v / (((Int16.ofInt 1000).toInt32 / c8 10) / c8 10) / c8 10 * c8 10))) (q + 3) (c8 10 + (v / ((((Int16.ofInt 1000).toInt32 / c8 10) / c8 10) / c8 10) - v / ((((Int16.ofInt 1000).toInt32 / c8 10) / c8 10) / c8 10) / c8 10 * c8 10)))) Y g) _
    iterate 3 (refine zv_step (bX4_addDigits 1) rfl rfl trivial ?_)
    refine zv_ift (by decide) ?_
    exact zv_ret (bX4_addDigits 1) rfl rfl (Nat.zero_le _) (Nat.zero_le _) ⟨rfl, by rw [show dgW v = [c8 10 + (v / (Int16.ofInt 1000).toInt32 - v / (Int16.ofInt 1000).toInt32 / c8 10 * c8 10), c8 10 + (v / ((Int16.ofInt 1000).toInt32 / c8 10) - v / ((Int16.ofInt 1000).toInt32 / c8 10) / c8 10 * c8 10), c8 10 + (v / (((Int16.ofInt 1000).toInt32 / c8 10) / c8 10) - v / (((Int16.ofInt 1000).toInt32 / c8 10) / c8 10) / c8 10 * c8 10), c8 10 + (v / ((((Int16.ofInt 1000).toInt32 / c8 10) / c8 10) / c8 10) - v / ((((Int16.ofInt 1000).toInt32 / c8 10) / c8 10) / c8 10) / c8 10 * c8 10)] by unfold dgW; rw [if_neg h1]]; rfl⟩
end
