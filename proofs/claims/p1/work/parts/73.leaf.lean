def G_leaf (p1 p2 : Int32) : Prop := (p1 = 0 ∧ 0 ≤ p2.toInt ∧ p2.toInt ≤ 9) ∨ (p1 = 1 ∧ 0 ≤ p2.toInt ∧ p2.toInt ≤ 9999)
def R_leaf (p1 p2 a : Int32) : Prop := (G_leaf p1 p2 ∧ a = 0) ∨ (¬ G_leaf p1 p2 ∧ a = -1)
theorem F_leaf {p1 p2 a b : Int32} (h1 : R_leaf p1 p2 a) (h2 : R_leaf p1 p2 b) : a = b := by
  rcases h1 with ⟨c1, rfl⟩ | ⟨c1, rfl⟩ <;> rcases h2 with ⟨c2, rfl⟩ | ⟨c2, rfl⟩ <;> first | rfl | exact absurd c1 c2 | exact absurd c2 c1
theorem nG0 {p2 : Int32} (h : ¬ (0 ≤ p2.toInt ∧ p2.toInt ≤ 9)) : ¬ G_leaf 0 p2 := fun q => q.elim (fun z => h z.2) (fun z => absurd z.1 (by decide))
theorem nG1 {p2 : Int32} (h : ¬ (0 ≤ p2.toInt ∧ p2.toInt ≤ 9999)) : ¬ G_leaf 1 p2 := fun q => q.elim (fun z => absurd z.1 (by decide)) (fun z => h z.2)
theorem nGd {p1 p2 : Int32} (hd : p1.toInt < 0 ∨ 1 < p1.toInt) : ¬ G_leaf p1 p2 := fun q => q.elim (fun z => by rw [z.1] at hd; exact absurd hd (by decide)) (fun z => by rw [z.1] at hd; exact absurd hd (by decide))
set_option maxHeartbeats 1000000 in
set_option maxRecDepth 20000 in
theorem hFull : zK 0 zX2_isFull [.ref 1] w0 (fun r w' => w' = w0 ∧ r = some (.int 0)) := by
  refine zK_of qX2_isFull (by decide +kernel) rfl ?_
  iterate 4 (refine zv_step (bX2_isFull 0) rfl rfl trivial ?_)
  refine zv_ift (by decide) ?_
  iterate 1 (refine zv_step (bX2_isFull 0) rfl rfl trivial ?_)
  exact zv_iret (bX2_isFull 0) rfl (Or.inr ⟨rfl, Or.inl rfl⟩) (Nat.zero_le _) (Nat.zero_le _) ⟨rfl, rfl⟩
set_option maxHeartbeats 1000000 in
set_option maxRecDepth 20000 in
theorem hOwnWords (w : zW) (x v : Int32) : zK 0 zX2_ownWords [.int x, .int v] w (fun r w' => w' = w ∧ ∃ a, r = some (.int a)) := by
  refine zK_of qX2_ownWords (by decide +kernel) rfl ?_
  iterate 3 (refine zv_step (bX2_ownWords 0) rfl rfl trivial ?_)
  refine zv_ifb (fun hc => ?_) (fun hc => ?_)
  · iterate 3 (refine zv_step (bX2_ownWords 0) rfl rfl trivial ?_)
    refine zv_ifb (fun hd => ?_) (fun hd => ?_)
    · iterate 2 (refine zv_step (bX2_ownWords 0) rfl rfl trivial ?_)
      exact zv_iret (bX2_ownWords 0) rfl (Or.inl rfl) (Nat.zero_le _) (Nat.zero_le _) ⟨rfl, _, rfl⟩
    · iterate 3 (refine zv_step (bX2_ownWords 0) rfl rfl trivial ?_)
      refine zv_ifb (fun he => ?_) (fun he => ?_)
      · iterate 1 (refine zv_step (bX2_ownWords 0) rfl rfl trivial ?_)
        exact zv_iret (bX2_ownWords 0) rfl (Or.inl rfl) (Nat.zero_le _) (Nat.zero_le _) ⟨rfl, _, rfl⟩
      · iterate 2 (refine zv_step (bX2_ownWords 0) rfl rfl trivial ?_)
        exact zv_iret (bX2_ownWords 0) rfl (Or.inl rfl) (Nat.zero_le _) (Nat.zero_le _) ⟨rfl, _, rfl⟩
  · iterate 3 (refine zv_step (bX2_ownWords 0) rfl rfl trivial ?_)
    refine zv_ifb (fun hd => ?_) (fun hd => ?_)
    · iterate 3 (refine zv_step (bX2_ownWords 0) rfl rfl trivial ?_)
      refine zv_ifb (fun he => ?_) (fun he => ?_)
      · iterate 3 (refine zv_step (bX2_ownWords 0) rfl rfl trivial ?_)
        refine zv_ifb (fun hf => ?_) (fun hf => ?_)
        · iterate 1 (refine zv_step (bX2_ownWords 0) rfl rfl trivial ?_)
          exact zv_iret (bX2_ownWords 0) rfl (Or.inl rfl) (Nat.zero_le _) (Nat.zero_le _) ⟨rfl, _, rfl⟩
        · iterate 2 (refine zv_step (bX2_ownWords 0) rfl rfl trivial ?_)
          exact zv_iret (bX2_ownWords 0) rfl (Or.inl rfl) (Nat.zero_le _) (Nat.zero_le _) ⟨rfl, _, rfl⟩
      · iterate 2 (refine zv_step (bX2_ownWords 0) rfl rfl trivial ?_)
        exact zv_iret (bX2_ownWords 0) rfl (Or.inl rfl) (Nat.zero_le _) (Nat.zero_le _) ⟨rfl, _, rfl⟩
    · iterate 2 (refine zv_step (bX2_ownWords 0) rfl rfl trivial ?_)
      exact zv_iret (bX2_ownWords 0) rfl (Or.inl rfl) (Nat.zero_le _) (Nat.zero_le _) ⟨rfl, _, rfl⟩
set_option maxHeartbeats 1000000 in
set_option maxRecDepth 20000 in
theorem hHasBit (w : zW) (x i : Int32) : zK 0 zX1_hasBit [.int x, .int i] w (fun r w' => w' = w ∧ ((((x >>> (i &&& 31)) &&& Int32.ofInt 1 = 0) ∧ r = some (.int 0)) ∨ ((¬ (x >>> (i &&& 31)) &&& Int32.ofInt 1 = 0) ∧ r = some (.int 1)))) := by
  refine zK_of qX1_hasBit (by decide +kernel) rfl ?_
  iterate 6 (refine zv_step (bX1_hasBit 0) rfl rfl trivial ?_)
  refine zv_ifb (fun hc => ?_) (fun hc => ?_)
  · iterate 1 (refine zv_step (bX1_hasBit 0) rfl rfl trivial ?_)
    exact zv_iret (bX1_hasBit 0) rfl (Or.inr ⟨rfl, Or.inl rfl⟩) (Nat.zero_le _) (Nat.zero_le _) ⟨rfl, Or.inl ⟨hc, rfl⟩⟩
  · iterate 2 (refine zv_step (bX1_hasBit 0) rfl rfl trivial ?_)
    exact zv_iret (bX1_hasBit 0) rfl (Or.inr ⟨rfl, Or.inr rfl⟩) (Nat.zero_le _) (Nat.zero_le _) ⟨rfl, Or.inr ⟨hc, rfl⟩⟩
set_option maxHeartbeats 1000000 in
set_option maxRecDepth 20000 in
theorem hHasNo (w : zW) (o : Nat) : zK 0 zX2_has [.ref o, .int (Int32.ofInt (-1))] w (fun r w' => w' = w ∧ r = some (.int 0)) := by
  refine zK_of qX2_has (by decide +kernel) rfl ?_
  iterate 2 (refine zv_step (bX2_has 0) rfl rfl trivial ?_)
  refine zv_ift (by decide) ?_
  iterate 1 (refine zv_step (bX2_has 0) rfl rfl trivial ?_)
  exact zv_iret (bX2_has 0) rfl (Or.inr ⟨rfl, Or.inl rfl⟩) (Nat.zero_le _) (Nat.zero_le _) ⟨rfl, rfl⟩
set_option maxHeartbeats 1000000 in
set_option maxRecDepth 20000 in
theorem hAddNo {w : zW} (n : Int32) {fs : List Value} (hw : w[1]? = some (zO 1 fs)) : zK 1 zX2_addPart [.ref 1, .int n, .int (Int32.ofInt (-1))] w (fun r w' => w' = w ∧ r = none) := by
  refine zK_of qX2_addPart (by decide +kernel) rfl ?_
  iterate 2 (refine zv_step (bX2_addPart 1) rfl rfl trivial ?_)
  refine zv_V1 (bX2_addPart 1) rfl rfl rfl hw rfl rfl rfl ⟨rfl, rfl, rfl⟩ ⟨by decide, by decide⟩ ⟨Nat.zero_le _, Nat.zero_le _⟩ (hHasNo _ _) ?_
  rintro _ _ ⟨rfl, rfl⟩
  iterate 1 (refine zv_step (bX2_addPart 1) rfl rfl trivial ?_)
  refine zv_iff (by decide) ?_
  exact zv_ret (bX2_addPart 1) rfl rfl (Nat.zero_le _) (Nat.zero_le _) ⟨rfl, rfl⟩
set_option maxHeartbeats 1000000 in
set_option maxRecDepth 20000 in
theorem hFirst0 (w : zW) (o : Nat) : zK 0 zX2_firstAlike [.ref o, .int 0] w (fun r w' => w' = w ∧ r = some (.int 0)) := by
  refine zK_of qX2_firstAlike (by decide +kernel) rfl ?_
  iterate 5 (refine zv_step (bX2_firstAlike 0) rfl rfl trivial ?_)
  refine zv_ift (by decide) ?_
  iterate 1 (refine zv_step (bX2_firstAlike 0) rfl rfl trivial ?_)
  exact zv_iret (bX2_firstAlike 0) rfl (Or.inl rfl) (Nat.zero_le _) (Nat.zero_le _) ⟨rfl, rfl⟩
set_option maxHeartbeats 1000000 in
set_option maxRecDepth 20000 in
theorem hPut0 (p2 : Int32) : zK 2 zX2_put [.ref 1, .int 0, .int p2, .int (Int32.ofInt (-1)), .int (Int32.ofInt (-1))] w0 (fun r w' => r = some (.int 0) ∧ ∀ j, 76 ≤ j → w'[j]? = w0[j]?) := by
  refine zK_of qX2_put (by decide +kernel) rfl ?_
  iterate 1 (refine zv_step (bX2_put 2) rfl rfl trivial ?_)
  refine zv_V0 (bX2_put 2) rfl rfl rfl rfl rfl rfl rfl ⟨rfl, rfl, rfl⟩ ⟨by decide, by decide⟩ ⟨Nat.zero_le _, Nat.zero_le _⟩ (hFull) ?_
  rintro _ _ ⟨rfl, rfl⟩
  iterate 1 (refine zv_step (bX2_put 2) rfl rfl trivial ?_)
  refine zv_ift (by decide) ?_
  iterate 7 (refine zv_step (bX2_put 2) rfl rfl trivial ?_)
  refine zv_step (bX2_put 2) rfl rfl (by unfold vp_in; decide) ?_
  iterate 4 (refine zv_step (bX2_put 2) rfl rfl trivial ?_)
  refine zv_step (bX2_put 2) rfl rfl (by unfold vp_in; decide) ?_
  iterate 4 (refine zv_step (bX2_put 2) rfl rfl trivial ?_)
  refine zv_step (bX2_put 2) rfl rfl (by unfold vp_in; decide) ?_
  iterate 4 (refine zv_step (bX2_put 2) rfl rfl trivial ?_)
  refine zv_step (bX2_put 2) rfl rfl (by unfold vp_in; decide) ?_
  iterate 4 (refine zv_step (bX2_put 2) rfl rfl trivial ?_)
  refine zv_step (bX2_put 2) rfl rfl (by unfold vp_in; decide) ?_
  iterate 4 (refine zv_step (bX2_put 2) rfl rfl trivial ?_)
  refine zv_step (bX2_put 2) rfl rfl (by unfold vp_in; decide) ?_
  iterate 5 (refine zv_step (bX2_put 2) rfl rfl trivial ?_)
  refine zv_S2 (bX2_put 2) rfl rfl rfl rfl ⟨rfl, rfl, rfl⟩ ⟨by decide, by decide⟩ ⟨Nat.zero_le _, Nat.zero_le _⟩ (hOwnWords _ _ _) ?_
  rintro _ _ ⟨rfl, aw, rfl⟩
  refine zv_step (bX2_put 2) rfl rfl (by unfold vp_in; decide) ?_
  iterate 5 (refine zv_step (bX2_put 2) rfl rfl trivial ?_)
  refine zv_S2 (bX2_put 2) rfl rfl rfl rfl ⟨rfl, rfl, rfl⟩ ⟨by decide, by decide⟩ ⟨Nat.zero_le _, Nat.zero_le _⟩ (hHasBit _ _ _) ?_
  rintro _ _ ⟨rfl, ⟨hh, rfl⟩ | ⟨hh, rfl⟩⟩
  · iterate 1 (refine zv_step (bX2_put 2) rfl rfl trivial ?_)
    refine zv_ift (by decide) ?_
    iterate 1 (refine zv_step (bX2_put 2) rfl rfl trivial ?_)
    refine zv_step (bX2_put 2) rfl rfl (by unfold vp_in; decide) ?_
    iterate 5 (refine zv_step (bX2_put 2) rfl rfl trivial ?_)
    refine zv_iff (by decide) ?_
    iterate 4 (refine zv_step (bX2_put 2) rfl rfl trivial ?_)
    refine zv_step (bX2_put 2) rfl rfl (by unfold vp_in; decide) ?_
    iterate 6 (refine zv_step (bX2_put 2) rfl rfl trivial ?_)
    refine zv_ift (by decide) ?_
    iterate 1 (refine zv_step (bX2_put 2) rfl rfl trivial ?_)
    refine zv_step (bX2_put 2) rfl rfl (by unfold vp_in; decide) ?_
    iterate 3 (refine zv_step (bX2_put 2) rfl rfl trivial ?_)
    refine zv_V2 (bX2_put 2) rfl rfl rfl rfl rfl rfl rfl ⟨rfl, rfl, rfl⟩ ⟨by decide, by decide⟩ ⟨Nat.zero_le _, Nat.zero_le _⟩ (hAddNo _ rfl) ?_
    rintro _ _ ⟨rfl, rfl⟩
    iterate 3 (refine zv_step (bX2_put 2) rfl rfl trivial ?_)
    refine zv_V2 (bX2_put 2) rfl rfl rfl rfl rfl rfl rfl ⟨rfl, rfl, rfl⟩ ⟨by decide, by decide⟩ ⟨Nat.zero_le _, Nat.zero_le _⟩ (hAddNo _ rfl) ?_
    rintro _ _ ⟨rfl, rfl⟩
    iterate 5 (refine zv_step (bX2_put 2) rfl rfl trivial ?_)
    refine zv_V1 (bX2_put 2) rfl rfl rfl rfl rfl rfl rfl ⟨rfl, rfl, rfl⟩ ⟨by decide, by decide⟩ ⟨Nat.zero_le _, Nat.zero_le _⟩ (hFirst0 _ _) ?_
    rintro _ _ ⟨rfl, rfl⟩
    refine zv_step (bX2_put 2) rfl rfl (by unfold vp_in; decide) ?_
    iterate 7 (refine zv_step (bX2_put 2) rfl rfl trivial ?_)
    exact zv_iret (bX2_put 2) rfl (Or.inl rfl) (Nat.zero_le _) (Nat.zero_le _) ⟨rfl, fun j hj => by repeat rw [List.getElem?_set_ne (by omega)]⟩
  · exact absurd (by decide) hh
set_option maxHeartbeats 1000000 in
set_option maxRecDepth 20000 in
theorem hPut1 (p2 : Int32) : zK 2 zX2_put [.ref 1, .int 1, .int p2, .int (Int32.ofInt (-1)), .int (Int32.ofInt (-1))] w0 (fun r w' => r = some (.int 0) ∧ ∀ j, 76 ≤ j → w'[j]? = w0[j]?) := by
  refine zK_of qX2_put (by decide +kernel) rfl ?_
  iterate 1 (refine zv_step (bX2_put 2) rfl rfl trivial ?_)
  refine zv_V0 (bX2_put 2) rfl rfl rfl rfl rfl rfl rfl ⟨rfl, rfl, rfl⟩ ⟨by decide, by decide⟩ ⟨Nat.zero_le _, Nat.zero_le _⟩ (hFull) ?_
  rintro _ _ ⟨rfl, rfl⟩
  iterate 1 (refine zv_step (bX2_put 2) rfl rfl trivial ?_)
  refine zv_ift (by decide) ?_
  iterate 7 (refine zv_step (bX2_put 2) rfl rfl trivial ?_)
  refine zv_step (bX2_put 2) rfl rfl (by unfold vp_in; decide) ?_
  iterate 4 (refine zv_step (bX2_put 2) rfl rfl trivial ?_)
  refine zv_step (bX2_put 2) rfl rfl (by unfold vp_in; decide) ?_
  iterate 4 (refine zv_step (bX2_put 2) rfl rfl trivial ?_)
  refine zv_step (bX2_put 2) rfl rfl (by unfold vp_in; decide) ?_
  iterate 4 (refine zv_step (bX2_put 2) rfl rfl trivial ?_)
  refine zv_step (bX2_put 2) rfl rfl (by unfold vp_in; decide) ?_
  iterate 4 (refine zv_step (bX2_put 2) rfl rfl trivial ?_)
  refine zv_step (bX2_put 2) rfl rfl (by unfold vp_in; decide) ?_
  iterate 4 (refine zv_step (bX2_put 2) rfl rfl trivial ?_)
  refine zv_step (bX2_put 2) rfl rfl (by unfold vp_in; decide) ?_
  iterate 5 (refine zv_step (bX2_put 2) rfl rfl trivial ?_)
  refine zv_S2 (bX2_put 2) rfl rfl rfl rfl ⟨rfl, rfl, rfl⟩ ⟨by decide, by decide⟩ ⟨Nat.zero_le _, Nat.zero_le _⟩ (hOwnWords _ _ _) ?_
  rintro _ _ ⟨rfl, aw, rfl⟩
  refine zv_step (bX2_put 2) rfl rfl (by unfold vp_in; decide) ?_
  iterate 5 (refine zv_step (bX2_put 2) rfl rfl trivial ?_)
  refine zv_S2 (bX2_put 2) rfl rfl rfl rfl ⟨rfl, rfl, rfl⟩ ⟨by decide, by decide⟩ ⟨Nat.zero_le _, Nat.zero_le _⟩ (hHasBit _ _ _) ?_
  rintro _ _ ⟨rfl, ⟨hh, rfl⟩ | ⟨hh, rfl⟩⟩
  · iterate 1 (refine zv_step (bX2_put 2) rfl rfl trivial ?_)
    refine zv_ift (by decide) ?_
    iterate 1 (refine zv_step (bX2_put 2) rfl rfl trivial ?_)
    refine zv_step (bX2_put 2) rfl rfl (by unfold vp_in; decide) ?_
    iterate 5 (refine zv_step (bX2_put 2) rfl rfl trivial ?_)
    refine zv_ift (by decide) ?_
    iterate 1 (refine zv_step (bX2_put 2) rfl rfl trivial ?_)
    refine zv_step (bX2_put 2) rfl rfl (by unfold vp_in; decide) ?_
    iterate 6 (refine zv_step (bX2_put 2) rfl rfl trivial ?_)
    refine zv_ift (by decide) ?_
    iterate 1 (refine zv_step (bX2_put 2) rfl rfl trivial ?_)
    refine zv_step (bX2_put 2) rfl rfl (by unfold vp_in; decide) ?_
    iterate 3 (refine zv_step (bX2_put 2) rfl rfl trivial ?_)
    refine zv_V2 (bX2_put 2) rfl rfl rfl rfl rfl rfl rfl ⟨rfl, rfl, rfl⟩ ⟨by decide, by decide⟩ ⟨Nat.zero_le _, Nat.zero_le _⟩ (hAddNo _ rfl) ?_
    rintro _ _ ⟨rfl, rfl⟩
    iterate 3 (refine zv_step (bX2_put 2) rfl rfl trivial ?_)
    refine zv_V2 (bX2_put 2) rfl rfl rfl rfl rfl rfl rfl ⟨rfl, rfl, rfl⟩ ⟨by decide, by decide⟩ ⟨Nat.zero_le _, Nat.zero_le _⟩ (hAddNo _ rfl) ?_
    rintro _ _ ⟨rfl, rfl⟩
    iterate 5 (refine zv_step (bX2_put 2) rfl rfl trivial ?_)
    refine zv_V1 (bX2_put 2) rfl rfl rfl rfl rfl rfl rfl ⟨rfl, rfl, rfl⟩ ⟨by decide, by decide⟩ ⟨Nat.zero_le _, Nat.zero_le _⟩ (hFirst0 _ _) ?_
    rintro _ _ ⟨rfl, rfl⟩
    refine zv_step (bX2_put 2) rfl rfl (by unfold vp_in; decide) ?_
    iterate 7 (refine zv_step (bX2_put 2) rfl rfl trivial ?_)
    exact zv_iret (bX2_put 2) rfl (Or.inl rfl) (Nat.zero_le _) (Nat.zero_le _) ⟨rfl, fun j hj => by repeat rw [List.getElem?_set_ne (by omega)]⟩
  · exact absurd (by decide) hh
set_option maxHeartbeats 1000000 in
set_option maxRecDepth 20000 in
theorem cX_leaf0 (p2 : Int32) : zK 3 zX6_leaf [.ref 0, .int 0, .int p2] w0 (fun r w' => (∃ a, r = some (.int a) ∧ R_leaf 0 p2 a) ∧ ∀ j, 76 ≤ j → w'[j]? = w0[j]?) := by
  refine zK_of qX6_leaf (by decide +kernel) rfl ?_
  iterate 2 (refine zv_step (bX6_leaf 3) rfl rfl trivial ?_)
  refine zv_ift (by decide) ?_
  iterate 2 (refine zv_step (bX6_leaf 3) rfl rfl trivial ?_)
  refine zv_ifb (fun hc => ?_) (fun hc => ?_)
  · rw [Int32.lt_iff_toInt_lt, Int32.toInt_zero] at hc
    iterate 1 (refine zv_step (bX6_leaf 3) rfl rfl trivial ?_)
    exact zv_iret (bX6_leaf 3) rfl (Or.inl rfl) (Nat.zero_le _) (Nat.zero_le _) ⟨⟨_, rfl, Or.inr ⟨nG0 (by omega), rfl⟩⟩, fun j hj => rfl⟩
  · rw [Int32.lt_iff_toInt_lt, Int32.toInt_zero] at hc
    iterate 3 (refine zv_step (bX6_leaf 3) rfl rfl trivial ?_)
    refine zv_iff (by decide) ?_
    iterate 3 (refine zv_step (bX6_leaf 3) rfl rfl trivial ?_)
    refine zv_ifb (fun hd => ?_) (fun hd => ?_)
    · rw [Int32.le_iff_toInt_le, i8c 9 (by decide)] at hd
      iterate 2 (refine zv_step (bX6_leaf 3) rfl rfl trivial ?_)
      refine zv_V0 (bX6_leaf 3) rfl rfl rfl rfl rfl rfl rfl ⟨rfl, rfl, rfl⟩ ⟨by decide, by decide⟩ ⟨Nat.zero_le _, Nat.zero_le _⟩ (hFull) ?_
      rintro _ _ ⟨rfl, rfl⟩
      iterate 1 (refine zv_step (bX6_leaf 3) rfl rfl trivial ?_)
      refine zv_ift (by decide) ?_
      iterate 6 (refine zv_step (bX6_leaf 3) rfl rfl trivial ?_)
      refine zv_V4 (bX6_leaf 3) rfl rfl rfl rfl rfl rfl rfl ⟨rfl, rfl, rfl⟩ ⟨by decide, by decide⟩ ⟨Nat.zero_le _, Nat.zero_le _⟩ (hPut0 _) ?_
      rintro _ w1 ⟨rfl, hw1⟩
      exact zv_iret (bX6_leaf 3) rfl (Or.inl rfl) (Nat.zero_le _) (Nat.zero_le _) ⟨⟨_, rfl, Or.inl ⟨Or.inl ⟨rfl, by omega⟩, rfl⟩⟩, hw1⟩
    · rw [Int32.le_iff_toInt_le, i8c 9 (by decide)] at hd
      iterate 1 (refine zv_step (bX6_leaf 3) rfl rfl trivial ?_)
      exact zv_iret (bX6_leaf 3) rfl (Or.inl rfl) (Nat.zero_le _) (Nat.zero_le _) ⟨⟨_, rfl, Or.inr ⟨nG0 (by omega), rfl⟩⟩, fun j hj => rfl⟩
set_option maxHeartbeats 1000000 in
set_option maxRecDepth 20000 in
theorem cX_leaf1 (p2 : Int32) : zK 3 zX6_leaf [.ref 0, .int 1, .int p2] w0 (fun r w' => (∃ a, r = some (.int a) ∧ R_leaf 1 p2 a) ∧ ∀ j, 76 ≤ j → w'[j]? = w0[j]?) := by
  refine zK_of qX6_leaf (by decide +kernel) rfl ?_
  iterate 2 (refine zv_step (bX6_leaf 3) rfl rfl trivial ?_)
  refine zv_iff (by decide) ?_
  iterate 3 (refine zv_step (bX6_leaf 3) rfl rfl trivial ?_)
  refine zv_ift (by decide) ?_
  iterate 2 (refine zv_step (bX6_leaf 3) rfl rfl trivial ?_)
  refine zv_ifb (fun hc => ?_) (fun hc => ?_)
  · rw [Int32.lt_iff_toInt_lt, Int32.toInt_zero] at hc
    iterate 1 (refine zv_step (bX6_leaf 3) rfl rfl trivial ?_)
    exact zv_iret (bX6_leaf 3) rfl (Or.inl rfl) (Nat.zero_le _) (Nat.zero_le _) ⟨⟨_, rfl, Or.inr ⟨nG1 (by omega), rfl⟩⟩, fun j hj => rfl⟩
  · rw [Int32.lt_iff_toInt_lt, Int32.toInt_zero] at hc
    iterate 3 (refine zv_step (bX6_leaf 3) rfl rfl trivial ?_)
    refine zv_ift (by decide) ?_
    iterate 2 (refine zv_step (bX6_leaf 3) rfl rfl trivial ?_)
    refine zv_ifb (fun hd => ?_) (fun hd => ?_)
    · rw [Int32.le_iff_toInt_le, i16c 9999 (by decide)] at hd
      iterate 2 (refine zv_step (bX6_leaf 3) rfl rfl trivial ?_)
      refine zv_V0 (bX6_leaf 3) rfl rfl rfl rfl rfl rfl rfl ⟨rfl, rfl, rfl⟩ ⟨by decide, by decide⟩ ⟨Nat.zero_le _, Nat.zero_le _⟩ (hFull) ?_
      rintro _ _ ⟨rfl, rfl⟩
      iterate 1 (refine zv_step (bX6_leaf 3) rfl rfl trivial ?_)
      refine zv_ift (by decide) ?_
      iterate 6 (refine zv_step (bX6_leaf 3) rfl rfl trivial ?_)
      refine zv_V4 (bX6_leaf 3) rfl rfl rfl rfl rfl rfl rfl ⟨rfl, rfl, rfl⟩ ⟨by decide, by decide⟩ ⟨Nat.zero_le _, Nat.zero_le _⟩ (hPut1 _) ?_
      rintro _ w1 ⟨rfl, hw1⟩
      exact zv_iret (bX6_leaf 3) rfl (Or.inl rfl) (Nat.zero_le _) (Nat.zero_le _) ⟨⟨_, rfl, Or.inl ⟨Or.inr ⟨rfl, by omega⟩, rfl⟩⟩, hw1⟩
    · rw [Int32.le_iff_toInt_le, i16c 9999 (by decide)] at hd
      iterate 1 (refine zv_step (bX6_leaf 3) rfl rfl trivial ?_)
      exact zv_iret (bX6_leaf 3) rfl (Or.inl rfl) (Nat.zero_le _) (Nat.zero_le _) ⟨⟨_, rfl, Or.inr ⟨nG1 (by omega), rfl⟩⟩, fun j hj => rfl⟩
set_option maxHeartbeats 1000000 in
set_option maxRecDepth 20000 in
theorem cX_leafd (p1 p2 : Int32) (hd : p1.toInt < 0 ∨ 1 < p1.toInt) : zK 3 zX6_leaf [.ref 0, .int p1, .int p2] w0 (fun r w' => (∃ a, r = some (.int a) ∧ R_leaf p1 p2 a) ∧ ∀ j, 76 ≤ j → w'[j]? = w0[j]?) := by
  refine zK_of qX6_leaf (by decide +kernel) rfl ?_
  iterate 2 (refine zv_step (bX6_leaf 3) rfl rfl trivial ?_)
  refine zv_iff (by intro q; rw [q] at hd; exact absurd hd (by decide)) ?_
  iterate 3 (refine zv_step (bX6_leaf 3) rfl rfl trivial ?_)
  refine zv_iff (by intro q; rw [q] at hd; exact absurd hd (by decide)) ?_
  iterate 1 (refine zv_step (bX6_leaf 3) rfl rfl trivial ?_)
  exact zv_iret (bX6_leaf 3) rfl (Or.inl rfl) (Nat.zero_le _) (Nat.zero_le _) ⟨⟨_, rfl, Or.inr ⟨nGd hd, rfl⟩⟩, fun j hj => rfl⟩
theorem cX_leaf (p1 p2 : Int32) : zK 3 zX6_leaf [.ref 0, .int p1, .int p2] w0 (fun r w' => (∃ a, r = some (.int a) ∧ R_leaf p1 p2 a) ∧ ∀ j, 76 ≤ j → w'[j]? = w0[j]?) := by
  rcases zcase1 p1 with rfl | rfl | hd
  · exact cX_leaf0 p2
  · exact cX_leaf1 p2
  · exact cX_leafd p1 p2 hd
