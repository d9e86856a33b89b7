def omV (x : Int32) : Int32 := if x = Int32.ofInt (-1) then c8 (-2) else x
/-- what look answers of a NODE, by its rows -/
def lkR (u : Nat) (V : Nat → Nat → Int32) (x y R : Int32) : Prop := (R = Int32.ofInt (-1) ∧ ¬ (isN u x ∧ 0 ≤ y.toInt ∧ y.toInt ≤ 6)) ∨ ∃ n c, n < u ∧ c < 7 ∧ x = nI n ∧ y = nI c ∧ R = V n c
theorem lkR_same {u : Nat} (hu : u ≤ 120) {V V' : Nat → Nat → Int32} {x y R R' : Int32} (g : lkR u V x y R) (g' : lkR u V' x y R') (h : ∀ n c, n < u → c < 7 → V n c = V' n c) : R = R' := by
  rcases g with ⟨r, q⟩ | ⟨n, c, hn, hc, ex, ey, r⟩ <;> rcases g' with ⟨r', q'⟩ | ⟨n', c', hn', hc', ex', ey', r'⟩
  · rw [r, r']
  · exact absurd ⟨by rw [ex']; exact isN_nI hu hn', by rw [ey', nI_toInt (by omega)]; omega⟩ q
  · exact absurd ⟨by rw [ex]; exact isN_nI hu hn, by rw [ey, nI_toInt (by omega)]; omega⟩ q'
  · have en : n = n' := (nI_eq (by omega) (by omega)).mp (ex.symm.trans ex')
    have ec : c = c' := (nI_eq (by omega) (by omega)).mp (ey.symm.trans ey')
    subst en
    subst ec
    rw [r, r', h n c hn hc]
noncomputable def lkC (O : Nat → Int32) (P : Nat → Nat → Int32) (n c : Nat) : Int32 := if c = 0 then P 2 n else if c = 1 then omV (P 3 n) else if c = 2 then omV (P 4 n) else if c = 3 then omV (P 5 n) else if c = 4 then P 6 n else if c = 5 then P 7 n else if P 10 n &&& O 0 = 0 ∧ P 11 n &&& (O 0 ^^^ Int32.ofInt (-1)) = 0 then Int32.ofInt 1 else Int32.ofInt 0
noncomputable def lkM (A : Nat → Nat → Int32) (n c : Nat) : Int32 := if c = 0 then A 0 n else if c = 1 then A 1 n else if c = 2 then A 2 n else if c = 3 then A 3 n else if c = 4 then A 4 n else if c = 5 then A 5 n else @ite _ (rtW A 40 (nI n)) (Classical.propDecidable _) (Int32.ofInt 1) (Int32.ofInt 0)
set_option maxHeartbeats 1000000 in
set_option maxRecDepth 20000 in
theorem pMissing (w : zW) (x : Int32) : zK 0 zX6_orMissing [.int x] w (fun r w' => w' = w ∧ r = some (.int (omV x))) := by
  refine zK_of qX6_orMissing (by decide +kernel) rfl ?_
  iterate 3 (refine zv_step (bX6_orMissing 0) rfl rfl trivial ?_)
  refine zv_ifb (fun h2 => ?_) (fun h2 => ?_)
  · iterate 1 (refine zv_step (bX6_orMissing 0) rfl rfl trivial ?_)
    exact zv_iret (bX6_orMissing 0) rfl (Or.inl rfl) (Nat.zero_le _) (Nat.zero_le _) ⟨rfl, congrArg (fun v => some (Value.int v)) ((if_neg h2).symm)⟩
  · iterate 2 (refine zv_step (bX6_orMissing 0) rfl rfl trivial ?_)
    exact zv_iret (bX6_orMissing 0) rfl (Or.inl rfl) (Nat.zero_le _) (Nat.zero_le _) ⟨rfl, congrArg (fun v => some (Value.int v)) ((if_pos (Decidable.not_not.mp h2)).symm)⟩
set_option maxHeartbeats 1000000 in
set_option maxRecDepth 20000 in
theorem cLookTX (O : Nat → Int32) (P : Nat → Nat → Int32) (Y : Nat → Nat → Int64) (g : Nat → zC) {u n : Nat} (hu : u ≤ 120) (hn : n < u) (x : Int32) {n0 : Nat} : zV (zMo 1 zX6_look) false n0 0 0 13 [(0, .ref 0), (1, .int (nI n)), (2, .int x)] [] (wX O P Y g) (fun r w' => w' = wX O P Y g ∧ ∃ R : Int32, r = some (.int R) ∧ lkR u (lkC O P) (nI n) x R) := by
  refine zv_step (bX6_look 1) rfl rfl trivial ?_
  by_cases hd : x.toInt < 0 ∨ 6 < x.toInt
  · refine zv_step (bX6_look 1) rfl rfl (by decide) ?_
    rw [if_pos hd]
    iterate 1 (refine zv_step (bX6_look 1) rfl rfl trivial ?_)
    exact zv_iret (bX6_look 1) rfl (Or.inl rfl) (Nat.zero_le _) (Nat.zero_le _) ⟨rfl, _, rfl, Or.inl ⟨rfl, fun q => by omega⟩⟩
  · obtain ⟨c, hc, rfl⟩ : ∃ c : Nat, c < 7 ∧ x = nI c := by
      refine ⟨x.toInt.toNat, by omega, ?_⟩
      rw [← Int32.toInt_inj, nI_toInt (by omega)]
      omega
    match c, hc with
    | 0, _ =>
      refine zv_step (bX6_look 1) rfl rfl (by decide) ?_
      iterate 4 (refine zv_step (bX6_look 1) rfl rfl trivial ?_)
      refine zv_iale (bX6_look 1) rfl rfl (show vp_in (nI n) 120 from vp_in_nI (by omega) (by decide)) (show P 2 (nI n).toNatClampNeg = P 2 n by rw [nI_clamp (by omega)]) ?_
      exact zv_iret (bX6_look 1) rfl (Or.inl rfl) (Nat.zero_le _) (Nat.zero_le _) ⟨rfl, _, rfl, Or.inr ⟨n, 0, hn, by decide, rfl, rfl, rfl⟩⟩
    | 1, _ =>
      refine zv_step (bX6_look 1) rfl rfl (by decide) ?_
      iterate 4 (refine zv_step (bX6_look 1) rfl rfl trivial ?_)
      refine zv_iale (bX6_look 1) rfl rfl (show vp_in (nI n) 120 from vp_in_nI (by omega) (by decide)) (show P 3 (nI n).toNatClampNeg = P 3 n by rw [nI_clamp (by omega)]) ?_
      refine zv_S1 (bX6_look 1) rfl rfl rfl rfl ⟨rfl, rfl, rfl⟩ ⟨by decide, by decide⟩ ⟨Nat.zero_le _, Nat.zero_le _⟩ (pMissing _ _) ?_
      rintro _ _ ⟨rfl, rfl⟩
      exact zv_iret (bX6_look 1) rfl (Or.inl rfl) (Nat.zero_le _) (Nat.zero_le _) ⟨rfl, _, rfl, Or.inr ⟨n, 1, hn, by decide, rfl, rfl, rfl⟩⟩
    | 2, _ =>
      refine zv_step (bX6_look 1) rfl rfl (by decide) ?_
      iterate 4 (refine zv_step (bX6_look 1) rfl rfl trivial ?_)
      refine zv_iale (bX6_look 1) rfl rfl (show vp_in (nI n) 120 from vp_in_nI (by omega) (by decide)) (show P 4 (nI n).toNatClampNeg = P 4 n by rw [nI_clamp (by omega)]) ?_
      refine zv_S1 (bX6_look 1) rfl rfl rfl rfl ⟨rfl, rfl, rfl⟩ ⟨by decide, by decide⟩ ⟨Nat.zero_le _, Nat.zero_le _⟩ (pMissing _ _) ?_
      rintro _ _ ⟨rfl, rfl⟩
      exact zv_iret (bX6_look 1) rfl (Or.inl rfl) (Nat.zero_le _) (Nat.zero_le _) ⟨rfl, _, rfl, Or.inr ⟨n, 2, hn, by decide, rfl, rfl, rfl⟩⟩
    | 3, _ =>
      refine zv_step (bX6_look 1) rfl rfl (by decide) ?_
      iterate 4 (refine zv_step (bX6_look 1) rfl rfl trivial ?_)
      refine zv_iale (bX6_look 1) rfl rfl (show vp_in (nI n) 120 from vp_in_nI (by omega) (by decide)) (show P 5 (nI n).toNatClampNeg = P 5 n by rw [nI_clamp (by omega)]) ?_
      refine zv_S1 (bX6_look 1) rfl rfl rfl rfl ⟨rfl, rfl, rfl⟩ ⟨by decide, by decide⟩ ⟨Nat.zero_le _, Nat.zero_le _⟩ (pMissing _ _) ?_
      rintro _ _ ⟨rfl, rfl⟩
      exact zv_iret (bX6_look 1) rfl (Or.inl rfl) (Nat.zero_le _) (Nat.zero_le _) ⟨rfl, _, rfl, Or.inr ⟨n, 3, hn, by decide, rfl, rfl, rfl⟩⟩
    | 4, _ =>
      refine zv_step (bX6_look 1) rfl rfl (by decide) ?_
      iterate 4 (refine zv_step (bX6_look 1) rfl rfl trivial ?_)
      refine zv_iale (bX6_look 1) rfl rfl (show vp_in (nI n) 120 from vp_in_nI (by omega) (by decide)) (show P 6 (nI n).toNatClampNeg = P 6 n by rw [nI_clamp (by omega)]) ?_
      exact zv_iret (bX6_look 1) rfl (Or.inl rfl) (Nat.zero_le _) (Nat.zero_le _) ⟨rfl, _, rfl, Or.inr ⟨n, 4, hn, by decide, rfl, rfl, rfl⟩⟩
    | 5, _ =>
      refine zv_step (bX6_look 1) rfl rfl (by decide) ?_
      iterate 4 (refine zv_step (bX6_look 1) rfl rfl trivial ?_)
      refine zv_iale (bX6_look 1) rfl rfl (show vp_in (nI n) 120 from vp_in_nI (by omega) (by decide)) (show P 7 (nI n).toNatClampNeg = P 7 n by rw [nI_clamp (by omega)]) ?_
      exact zv_iret (bX6_look 1) rfl (Or.inl rfl) (Nat.zero_le _) (Nat.zero_le _) ⟨rfl, _, rfl, Or.inr ⟨n, 5, hn, by decide, rfl, rfl, rfl⟩⟩
    | 6, _ =>
      refine zv_step (bX6_look 1) rfl rfl (by decide) ?_
      iterate 5 (refine zv_step (bX6_look 1) rfl rfl trivial ?_)
      refine zv_V2 (bX6_look 1) rfl rfl rfl rfl rfl rfl rfl ⟨rfl, rfl, rfl⟩ ⟨by decide, by decide⟩ ⟨Nat.zero_le _, Nat.zero_le _⟩ (pRight1 O P Y g _ (show vp_in (nI n) 120 from vp_in_nI (by omega) (by decide))) ?_
      rintro _ _ ⟨rfl, ⟨hr, rfl⟩ | ⟨hr, rfl⟩⟩
      · rw [nI_clamp (show n < 2 ^ 31 by omega)] at hr
        iterate 1 (refine zv_step (bX6_look 1) rfl rfl trivial ?_)
        refine zv_iff (by decide) ?_
        iterate 2 (refine zv_step (bX6_look 1) rfl rfl trivial ?_)
        exact zv_iret (bX6_look 1) rfl (Or.inl rfl) (Nat.zero_le _) (Nat.zero_le _) ⟨rfl, _, rfl, Or.inr ⟨n, 6, hn, by decide, rfl, rfl, (if_pos hr).symm⟩⟩
      · rw [nI_clamp (show n < 2 ^ 31 by omega)] at hr
        iterate 1 (refine zv_step (bX6_look 1) rfl rfl trivial ?_)
        refine zv_ift (by decide) ?_
        iterate 1 (refine zv_step (bX6_look 1) rfl rfl trivial ?_)
        exact zv_iret (bX6_look 1) rfl (Or.inl rfl) (Nat.zero_le _) (Nat.zero_le _) ⟨rfl, _, rfl, Or.inr ⟨n, 6, hn, by decide, rfl, rfl, (if_neg hr).symm⟩⟩
    | c + 7, h => exact absurd h (by omega)
set_option maxHeartbeats 1000000 in
set_option maxRecDepth 20000 in
theorem cLookX (O : Nat → Int32) (P : Nat → Nat → Int32) (Y : Nat → Nat → Int64) (g : Nat → zC) {u : Nat} (hu : u ≤ 120) (h1 : O 1 = nI u) (x y : Int32) : zK 1 zX6_look [.ref 0, .int x, .int y] (wX O P Y g) (fun r w' => w' = wX O P Y g ∧ ∃ R : Int32, r = some (.int R) ∧ lkR u (lkC O P) x y R) := by
  refine zK_of qX6_look (by decide +kernel) rfl ?_
  iterate 3 (refine zv_step (bX6_look 1) rfl rfl trivial ?_)
  refine zv_V1 (bX6_look 1) rfl rfl rfl rfl rfl rfl rfl ⟨rfl, rfl, rfl⟩ ⟨by decide, by decide⟩ ⟨Nat.zero_le _, Nat.zero_le _⟩ (pHas1 O P Y g _) ?_
  rintro _ _ ⟨rfl, ⟨hh, rfl⟩ | ⟨hh, rfl⟩⟩
  · have hh1 : isN u x := by
      have h9 := hh
      rw [h1, nI_toInt (by omega)] at h9
      exact h9
    obtain ⟨n, hn, rfl⟩ := has_j hu h1 hh
    iterate 1 (refine zv_step (bX6_look 1) rfl rfl trivial ?_)
    refine zv_ift (by decide) ?_
    exact cLookTX O P Y g hu hn _
  · skip
    iterate 1 (refine zv_step (bX6_look 1) rfl rfl trivial ?_)
    refine zv_iff (by decide) ?_
    iterate 1 (refine zv_step (bX6_look 1) rfl rfl trivial ?_)
    exact zv_iret (bX6_look 1) rfl (Or.inl rfl) (Nat.zero_le _) (Nat.zero_le _) ⟨rfl, _, rfl, Or.inl ⟨rfl, fun q => hh (by rw [h1, nI_toInt (by omega)]; exact q.1)⟩⟩
set_option maxHeartbeats 1000000 in
set_option maxRecDepth 20000 in
theorem mLookTX (f : Nat → zC) (o : Nat → Int32) (A : Nat → Nat → Int32) (J : Nat → Nat → Int64) {u n c : Nat} (hu : u ≤ 120) (hT : tbI 0 u A) (hn : n < u) (hc : c < 7) {n0 : Nat} : zV (zMo 42 zX7_look) false n0 0 0 22 [(0, .ref 76), (1, .int (nI n)), (2, .int (nI c))] [] (wR f o A J) (fun r w' => w' = (wR f o A J) ∧ ∃ R : Int32, r = some (.int R) ∧ lkR u (lkM A) (nI n) (nI c) R) := by
  refine zv_step (bX7_look 42) rfl rfl trivial ?_
  match c, hc with
  | 0, _ =>
    refine zv_step (bX7_look 42) rfl rfl (by decide) ?_
    iterate 3 (refine zv_step (bX7_look 42) rfl rfl trivial ?_)
    refine zv_iale (bX7_look 42) rfl rfl (vp_in_nI (by omega) (by decide)) (show A 0 (nI n).toNatClampNeg = A 0 n by rw [nI_clamp (by omega)]) ?_
    exact zv_iret (bX7_look 42) rfl (Or.inl rfl) (Nat.zero_le _) (Nat.zero_le _) ⟨rfl, _, rfl, Or.inr ⟨n, 0, hn, by decide, rfl, rfl, rfl⟩⟩
  | 1, _ =>
    refine zv_step (bX7_look 42) rfl rfl (by decide) ?_
    iterate 3 (refine zv_step (bX7_look 42) rfl rfl trivial ?_)
    refine zv_iale (bX7_look 42) rfl rfl (vp_in_nI (by omega) (by decide)) (show A 1 (nI n).toNatClampNeg = A 1 n by rw [nI_clamp (by omega)]) ?_
    exact zv_iret (bX7_look 42) rfl (Or.inl rfl) (Nat.zero_le _) (Nat.zero_le _) ⟨rfl, _, rfl, Or.inr ⟨n, 1, hn, by decide, rfl, rfl, rfl⟩⟩
  | 2, _ =>
    refine zv_step (bX7_look 42) rfl rfl (by decide) ?_
    iterate 3 (refine zv_step (bX7_look 42) rfl rfl trivial ?_)
    refine zv_iale (bX7_look 42) rfl rfl (vp_in_nI (by omega) (by decide)) (show A 2 (nI n).toNatClampNeg = A 2 n by rw [nI_clamp (by omega)]) ?_
    exact zv_iret (bX7_look 42) rfl (Or.inl rfl) (Nat.zero_le _) (Nat.zero_le _) ⟨rfl, _, rfl, Or.inr ⟨n, 2, hn, by decide, rfl, rfl, rfl⟩⟩
  | 3, _ =>
    refine zv_step (bX7_look 42) rfl rfl (by decide) ?_
    iterate 3 (refine zv_step (bX7_look 42) rfl rfl trivial ?_)
    refine zv_iale (bX7_look 42) rfl rfl (vp_in_nI (by omega) (by decide)) (show A 3 (nI n).toNatClampNeg = A 3 n by rw [nI_clamp (by omega)]) ?_
    exact zv_iret (bX7_look 42) rfl (Or.inl rfl) (Nat.zero_le _) (Nat.zero_le _) ⟨rfl, _, rfl, Or.inr ⟨n, 3, hn, by decide, rfl, rfl, rfl⟩⟩
  | 4, _ =>
    refine zv_step (bX7_look 42) rfl rfl (by decide) ?_
    iterate 3 (refine zv_step (bX7_look 42) rfl rfl trivial ?_)
    refine zv_iale (bX7_look 42) rfl rfl (vp_in_nI (by omega) (by decide)) (show A 4 (nI n).toNatClampNeg = A 4 n by rw [nI_clamp (by omega)]) ?_
    exact zv_iret (bX7_look 42) rfl (Or.inl rfl) (Nat.zero_le _) (Nat.zero_le _) ⟨rfl, _, rfl, Or.inr ⟨n, 4, hn, by decide, rfl, rfl, rfl⟩⟩
  | 5, _ =>
    refine zv_step (bX7_look 42) rfl rfl (by decide) ?_
    iterate 3 (refine zv_step (bX7_look 42) rfl rfl trivial ?_)
    refine zv_iale (bX7_look 42) rfl rfl (vp_in_nI (by omega) (by decide)) (show A 5 (nI n).toNatClampNeg = A 5 n by rw [nI_clamp (by omega)]) ?_
    exact zv_iret (bX7_look 42) rfl (Or.inl rfl) (Nat.zero_le _) (Nat.zero_le _) ⟨rfl, _, rfl, Or.inr ⟨n, 5, hn, by decide, rfl, rfl, rfl⟩⟩
  | 6, _ =>
    refine zv_step (bX7_look 42) rfl rfl (by decide) ?_
    iterate 2 (refine zv_step (bX7_look 42) rfl rfl trivial ?_)
    refine zv_V1 (bX7_look 42) rfl rfl rfl rfl rfl rfl rfl ⟨rfl, rfl, rfl⟩ ⟨by show 40 + 1 + 1 ≤ 42; omega, by show 8 + (3 + 11) + 64 * (40 + 1) ≤ 64 * (42); omega⟩ ⟨Nat.zero_le _, Nat.zero_le _⟩ (mRightX f o A J (by omega) hT 40 _ (pt_of hT (Nat.zero_le _) hn)) ?_
    rintro _ _ ⟨rfl, ⟨g3, rfl⟩ | ⟨g3, rfl⟩⟩
    · skip
      iterate 1 (refine zv_step (bX7_look 42) rfl rfl trivial ?_)
      refine zv_iff (by decide) ?_
      iterate 2 (refine zv_step (bX7_look 42) rfl rfl trivial ?_)
      exact zv_iret (bX7_look 42) rfl (Or.inl rfl) (Nat.zero_le _) (Nat.zero_le _) ⟨rfl, _, rfl, Or.inr ⟨n, 6, hn, by decide, rfl, rfl, (@if_pos _ (Classical.propDecidable _) g3 _ _ _).symm⟩⟩
    · skip
      iterate 1 (refine zv_step (bX7_look 42) rfl rfl trivial ?_)
      refine zv_ift (by decide) ?_
      iterate 1 (refine zv_step (bX7_look 42) rfl rfl trivial ?_)
      exact zv_iret (bX7_look 42) rfl (Or.inl rfl) (Nat.zero_le _) (Nat.zero_le _) ⟨rfl, _, rfl, Or.inr ⟨n, 6, hn, by decide, rfl, rfl, (@if_neg _ (Classical.propDecidable _) g3 _ _ _).symm⟩⟩
  | c + 7, h => exact absurd h (by omega)
set_option maxHeartbeats 1000000 in
set_option maxRecDepth 20000 in
theorem mLookX (f : Nat → zC) (o : Nat → Int32) (A : Nat → Nat → Int32) (J : Nat → Nat → Int64) {u : Nat} (hu : u ≤ 120) (ho : o 0 = nI u) (hT : tbI 0 u A) (x y : Int32) : zK 42 zX7_look [.ref 76, .int x, .int y] (wR f o A J) (fun r w' => w' = (wR f o A J) ∧ ∃ R : Int32, r = some (.int R) ∧ lkR u (lkM A) x y R) := by
  refine zK_of qX7_look (by decide +kernel) rfl ?_
  iterate 2 (refine zv_step (bX7_look 42) rfl rfl trivial ?_)
  refine zv_V1 (bX7_look 42) rfl rfl rfl rfl rfl rfl rfl ⟨rfl, rfl, rfl⟩ ⟨by decide, by decide⟩ ⟨Nat.zero_le _, Nat.zero_le _⟩ (mIsNode f o A J hu ho _) ?_
  rintro _ _ ⟨rfl, ⟨g1, rfl⟩ | ⟨g1, rfl⟩⟩
  · obtain ⟨n, hn, rfl⟩ := nd_of (by omega) g1
    iterate 1 (refine zv_step (bX7_look 42) rfl rfl trivial ?_)
    refine zv_iff (by decide) ?_
    iterate 4 (refine zv_step (bX7_look 42) rfl rfl trivial ?_)
    refine zv_S3 (bX7_look 42) rfl rfl rfl rfl ⟨rfl, rfl, rfl⟩ ⟨by decide, by decide⟩ ⟨Nat.zero_le _, Nat.zero_le _⟩ (mIn _ _ _ _ (a := 0) (b := 6) (by decide) (by decide)) ?_
    rintro _ _ ⟨rfl, ⟨g2, rfl⟩ | ⟨g2, rfl⟩⟩
    · try rw [Int32.toInt_toInt64] at g2
      obtain ⟨c, hc, rfl⟩ := in_nat (x := y) (b := 6) (by decide) g2
      iterate 1 (refine zv_step (bX7_look 42) rfl rfl trivial ?_)
      refine zv_ift (by decide) ?_
      exact mLookTX f o A J hu hT hn (by omega)
    · try rw [Int32.toInt_toInt64] at g2
      iterate 1 (refine zv_step (bX7_look 42) rfl rfl trivial ?_)
      refine zv_iff (by decide) ?_
      iterate 1 (refine zv_step (bX7_look 42) rfl rfl trivial ?_)
      exact zv_iret (bX7_look 42) rfl (Or.inl rfl) (Nat.zero_le _) (Nat.zero_le _) ⟨rfl, _, rfl, Or.inl ⟨rfl, fun q => g2 q.2⟩⟩
  · skip
    iterate 1 (refine zv_step (bX7_look 42) rfl rfl trivial ?_)
    refine zv_ift (by decide) ?_
    iterate 1 (refine zv_step (bX7_look 42) rfl rfl trivial ?_)
    exact zv_iret (bX7_look 42) rfl (Or.inl rfl) (Nat.zero_le _) (Nat.zero_le _) ⟨rfl, _, rfl, Or.inl ⟨rfl, fun q => g1 (by have := q.1.1; have := q.1.2; omega)⟩⟩
theorem om_cv (x : Int32) (h : x = m2 ∨ ∃ v, v ≤ 9999 ∧ x = nI v) : omV (cvI x) = x := by
  unfold omV
  rcases h with e | ⟨v, hv, e⟩
  · rw [e, cvI_m2, if_pos rfl]
  · rw [e, cvI_nI (by omega), if_neg (m1_n (by omega))]
theorem lk_same {u : Nat} (hu : u ≤ 120) {O : Nat → Int32} {P A : Nat → Nat → Int32} (hT : tbI 0 u A) (hN : NR u P A) (hD : ∀ n, n < u → P 7 n = A 5 n) (hf : fnR O A) : ∀ n c, n < u → c < 7 → lkC O P n c = lkM A n c := fun n c hn hc => by
  obtain ⟨n1, n2, n3, n4, n5, n6, n7, _⟩ := hN n hn
  obtain ⟨k, h0, hk, hs, h40, hv⟩ := rN_val (hT n (Nat.zero_le _) hn)
  have h1 : A 1 n = m2 ∨ ∃ v, v ≤ 9999 ∧ A 1 n = nI v := by
    by_cases q28 : 2 ≤ k ∧ k ≤ 8
    · exact Or.inl (hv.2.2 q28.1 q28.2)
    · rcases (show k = 1 ∨ (k = 0 ∨ k = 9) by omega) with q1 | q1
      · exact Or.inr (hv.2.1 q1)
      · obtain ⟨v, a, b⟩ := hv.1 q1
        exact Or.inr ⟨v, by omega, b⟩
  obtain ⟨d2, d3⟩ := rN_dn (hT n (Nat.zero_le _) hn)
  have h2 : A 2 n = m2 ∨ ∃ v, v ≤ 9999 ∧ A 2 n = nI v := d2.imp id (fun ⟨a, e, ha, _⟩ => ⟨a, by omega, e⟩)
  have h3 : A 3 n = m2 ∨ ∃ v, v ≤ 9999 ∧ A 3 n = nI v := d3.imp id (fun ⟨a, e, ha, _⟩ => ⟨a, by omega, e⟩)
  obtain ⟨m, hm, em, hb⟩ := hf
  have hr := rt_bits hu hT hN hm hb 40 (nI n) (pt_of hT (Nat.zero_le _) hn)
  rw [cvI_nI (by omega), pvI_nI _ (by omega), pvI_nI _ (by omega), ← em] at hr
  unfold lkC lkM
  match c, hc with
  | 0, _ => exact n1
  | 1, _ => show omV (P 3 n) = A 1 n; rw [n2]; exact om_cv _ h1
  | 2, _ => show omV (P 4 n) = A 2 n; rw [n3]; exact om_cv _ h2
  | 3, _ => show omV (P 5 n) = A 3 n; rw [n4]; exact om_cv _ h3
  | 4, _ => exact n5
  | 5, _ => exact hD n hn
  | 6, _ =>
    show (if P 10 n &&& O 0 = 0 ∧ P 11 n &&& (O 0 ^^^ Int32.ofInt (-1)) = 0 then Int32.ofInt 1 else Int32.ofInt 0) = @ite _ (rtW A 40 (nI n)) (Classical.propDecidable _) (Int32.ofInt 1) (Int32.ofInt 0)
    by_cases q : P 10 n &&& O 0 = 0 ∧ P 11 n &&& (O 0 ^^^ Int32.ofInt (-1)) = 0
    · rw [if_pos q]
      exact (@if_pos _ (Classical.propDecidable _) (hr.mp q) _ _ _).symm
    · rw [if_neg q]
      exact (@if_neg _ (Classical.propDecidable _) (fun w => q (hr.mpr w)) _ _ _).symm
  | c + 7, h => exact absurd h (by omega)
