noncomputable def ptW (u : Int32) (Xs Ys : Nat → Int32) (x d : Int32) : Int32 := if 0 ≤ x.toInt ∧ x.toInt < u.toInt then (if d.toInt = 1 then Xs (nC x) else if d.toInt = 2 then Ys (nC x) else Int32.ofInt (-1)) else Int32.ofInt (-1)
set_option maxHeartbeats 1000000 in
set_option maxRecDepth 20000 in
theorem pPt1 (O : Nat → Int32) (P : Nat → Nat → Int32) (Y : Nat → Nat → Int64) (g : Nat → zC) (hu : (O 1).toInt ≤ 120) (x d : Int32) : zK 1 zX2_partOf [.ref 1, .int x, .int d] (wX O P Y g) (fun r w' => w' = wX O P Y g ∧ r = some (.int (ptW (O 1) (P 4) (P 5) x d))) := by
  refine zK_of qX2_partOf (by decide +kernel) rfl ?_
  iterate 2 (refine zv_step (bX2_partOf 1) rfl rfl trivial ?_)
  refine zv_V1 (bX2_partOf 1) rfl rfl rfl rfl rfl rfl rfl ⟨rfl, rfl, rfl⟩ ⟨by decide, by decide⟩ ⟨Nat.zero_le _, Nat.zero_le _⟩ (pHas1 O P Y g _) ?_
  rintro _ _ ⟨rfl, ⟨hh, rfl⟩ | ⟨hh, rfl⟩⟩
  · iterate 1 (refine zv_step (bX2_partOf 1) rfl rfl trivial ?_)
    refine zv_iff (by decide) ?_
    iterate 3 (refine zv_step (bX2_partOf 1) rfl rfl trivial ?_)
    refine zv_ifb (fun hc => ?_) (fun hc => ?_)
    · rw [Int32.lt_iff_toInt_lt, i32c 1 (by decide)] at hc
      iterate 1 (refine zv_step (bX2_partOf 1) rfl rfl trivial ?_)
      exact zv_iret (bX2_partOf 1) rfl (Or.inl rfl) (Nat.zero_le _) (Nat.zero_le _) ⟨rfl, by unfold ptW; rw [if_pos hh, if_neg (by omega), if_neg (by omega)] <;> rfl⟩
    · rw [Int32.lt_iff_toInt_lt, i32c 1 (by decide)] at hc
      iterate 3 (refine zv_step (bX2_partOf 1) rfl rfl trivial ?_)
      refine zv_ifb (fun hd => ?_) (fun hd => ?_)
      · rw [Int32.le_iff_toInt_le, i32c 2 (by decide)] at hd
        iterate 3 (refine zv_step (bX2_partOf 1) rfl rfl trivial ?_)
        refine zv_ifb (fun he => ?_) (fun he => ?_)
        · rw [i32e _ 1 (by decide)] at he
          iterate 3 (refine zv_step (bX2_partOf 1) rfl rfl trivial ?_)
          refine zv_step (bX2_partOf 1) rfl rfl (vp_in_iff.mpr ⟨hh.1, Int.lt_of_lt_of_le hh.2 hu⟩) ?_
          exact zv_iret (bX2_partOf 1) rfl (Or.inl rfl) (Nat.zero_le _) (Nat.zero_le _) ⟨rfl, by unfold ptW; rw [if_pos hh, if_neg he, if_pos (by omega)] <;> rfl⟩
        · rw [i32e _ 1 (by decide)] at he
          iterate 3 (refine zv_step (bX2_partOf 1) rfl rfl trivial ?_)
          refine zv_step (bX2_partOf 1) rfl rfl (vp_in_iff.mpr ⟨hh.1, Int.lt_of_lt_of_le hh.2 hu⟩) ?_
          iterate 1 (refine zv_step (bX2_partOf 1) rfl rfl trivial ?_)
          exact zv_iret (bX2_partOf 1) rfl (Or.inl rfl) (Nat.zero_le _) (Nat.zero_le _) ⟨rfl, by unfold ptW; rw [if_pos hh, if_pos (Decidable.not_not.mp he)] <;> rfl⟩
      · rw [Int32.le_iff_toInt_le, i32c 2 (by decide)] at hd
        iterate 1 (refine zv_step (bX2_partOf 1) rfl rfl trivial ?_)
        exact zv_iret (bX2_partOf 1) rfl (Or.inl rfl) (Nat.zero_le _) (Nat.zero_le _) ⟨rfl, by unfold ptW; rw [if_pos hh, if_neg (by omega), if_neg (by omega)] <;> rfl⟩
  · iterate 1 (refine zv_step (bX2_partOf 1) rfl rfl trivial ?_)
    refine zv_ift (by decide) ?_
    iterate 1 (refine zv_step (bX2_partOf 1) rfl rfl trivial ?_)
    exact zv_iret (bX2_partOf 1) rfl (Or.inl rfl) (Nat.zero_le _) (Nat.zero_le _) ⟨rfl, by unfold ptW; rw [if_neg hh] <;> rfl⟩
set_option maxHeartbeats 1000000 in
set_option maxRecDepth 20000 in
theorem pPt14 (O : Nat → Int32) (P : Nat → Nat → Int32) (Y : Nat → Nat → Int64) (g : Nat → zC) (hu : (O 2).toInt ≤ 120) (x d : Int32) : zK 1 zX2_partOf [.ref 14, .int x, .int d] (wX O P Y g) (fun r w' => w' = wX O P Y g ∧ r = some (.int (ptW (O 2) (P 17) (P 18) x d))) := by
  refine zK_of qX2_partOf (by decide +kernel) rfl ?_
  iterate 2 (refine zv_step (bX2_partOf 1) rfl rfl trivial ?_)
  refine zv_V1 (bX2_partOf 1) rfl rfl rfl rfl rfl rfl rfl ⟨rfl, rfl, rfl⟩ ⟨by decide, by decide⟩ ⟨Nat.zero_le _, Nat.zero_le _⟩ (pHas14 O P Y g _) ?_
  rintro _ _ ⟨rfl, ⟨hh, rfl⟩ | ⟨hh, rfl⟩⟩
  · iterate 1 (refine zv_step (bX2_partOf 1) rfl rfl trivial ?_)
    refine zv_iff (by decide) ?_
    iterate 3 (refine zv_step (bX2_partOf 1) rfl rfl trivial ?_)
    refine zv_ifb (fun hc => ?_) (fun hc => ?_)
    · rw [Int32.lt_iff_toInt_lt, i32c 1 (by decide)] at hc
      iterate 1 (refine zv_step (bX2_partOf 1) rfl rfl trivial ?_)
      exact zv_iret (bX2_partOf 1) rfl (Or.inl rfl) (Nat.zero_le _) (Nat.zero_le _) ⟨rfl, by unfold ptW; rw [if_pos hh, if_neg (by omega), if_neg (by omega)] <;> rfl⟩
    · rw [Int32.lt_iff_toInt_lt, i32c 1 (by decide)] at hc
      iterate 3 (refine zv_step (bX2_partOf 1) rfl rfl trivial ?_)
      refine zv_ifb (fun hd => ?_) (fun hd => ?_)
      · rw [Int32.le_iff_toInt_le, i32c 2 (by decide)] at hd
        iterate 3 (refine zv_step (bX2_partOf 1) rfl rfl trivial ?_)
        refine zv_ifb (fun he => ?_) (fun he => ?_)
        · rw [i32e _ 1 (by decide)] at he
          iterate 3 (refine zv_step (bX2_partOf 1) rfl rfl trivial ?_)
          refine zv_step (bX2_partOf 1) rfl rfl (vp_in_iff.mpr ⟨hh.1, Int.lt_of_lt_of_le hh.2 hu⟩) ?_
          exact zv_iret (bX2_partOf 1) rfl (Or.inl rfl) (Nat.zero_le _) (Nat.zero_le _) ⟨rfl, by unfold ptW; rw [if_pos hh, if_neg he, if_pos (by omega)] <;> rfl⟩
        · rw [i32e _ 1 (by decide)] at he
          iterate 3 (refine zv_step (bX2_partOf 1) rfl rfl trivial ?_)
          refine zv_step (bX2_partOf 1) rfl rfl (vp_in_iff.mpr ⟨hh.1, Int.lt_of_lt_of_le hh.2 hu⟩) ?_
          iterate 1 (refine zv_step (bX2_partOf 1) rfl rfl trivial ?_)
          exact zv_iret (bX2_partOf 1) rfl (Or.inl rfl) (Nat.zero_le _) (Nat.zero_le _) ⟨rfl, by unfold ptW; rw [if_pos hh, if_pos (Decidable.not_not.mp he)] <;> rfl⟩
      · rw [Int32.le_iff_toInt_le, i32c 2 (by decide)] at hd
        iterate 1 (refine zv_step (bX2_partOf 1) rfl rfl trivial ?_)
        exact zv_iret (bX2_partOf 1) rfl (Or.inl rfl) (Nat.zero_le _) (Nat.zero_le _) ⟨rfl, by unfold ptW; rw [if_pos hh, if_neg (by omega), if_neg (by omega)] <;> rfl⟩
  · iterate 1 (refine zv_step (bX2_partOf 1) rfl rfl trivial ?_)
    refine zv_ift (by decide) ?_
    iterate 1 (refine zv_step (bX2_partOf 1) rfl rfl trivial ?_)
    exact zv_iret (bX2_partOf 1) rfl (Or.inl rfl) (Nat.zero_le _) (Nat.zero_le _) ⟨rfl, by unfold ptW; rw [if_neg hh] <;> rfl⟩
/-- one step of a walk down: where it is, its NODES, its digits -/
noncomputable def sdW (u : Int32) (Xs Ys : Nat → Int32) (dg : Int32) (s : Nat × (Nat → Int32) × (Nat → Int32)) : Nat × (Nat → Int32) × (Nat → Int32) := if ptW u Xs Ys (s.2.1 s.1) dg = Int32.ofInt (-1) ∨ 40 ≤ s.1 + 1 then s else (s.1 + 1, upd s.2.1 (s.1 + 1) (ptW u Xs Ys (s.2.1 s.1) dg), upd s.2.2 (s.1 + 1) dg)
theorem sdW_le {u : Int32} {Xs Ys : Nat → Int32} {dg : Int32} {s : Nat × (Nat → Int32) × (Nat → Int32)} (h : s.1 < 40) : (sdW u Xs Ys dg s).1 < 40 := by
  unfold sdW
  split
  · exact h
  · rename_i q; show s.1 + 1 < 40; omega
theorem e40 : c8 40 = nI 40 := by decide +kernel
theorem e19 : c8 19 = nI 19 := by decide +kernel
set_option maxHeartbeats 1000000 in
set_option maxRecDepth 20000 in
theorem wHere (O : Nat → Int32) (P : Nat → Nat → Int32) (Y : Nat → Nat → Int64) (g : Nat → zC) {dd : Nat} (hd : dd < 40) (N D : Nat → Int32) : zK 0 zX5_here [.ref 55] (wX (upd O 14 (nI (dd))) (updA (updA P 56 (N)) 57 (D)) Y g) (fun r w' => w' = (wX (upd O 14 (nI (dd))) (updA (updA P 56 (N)) 57 (D)) Y g) ∧ r = some (.int (N dd))) := by
  refine zK_of qX5_here (by decide +kernel) rfl ?_
  iterate 4 (refine zv_step (bX5_here 0) rfl rfl trivial ?_)
  refine zv_iale (bX5_here 0) rfl rfl (show vp_in (nI dd) 40 from vp_in_nI hd (by decide)) (show N (nI dd).toNatClampNeg = N dd by rw [nI_clamp (by omega)]) ?_
  exact zv_iret (bX5_here 0) rfl (Or.inl rfl) (Nat.zero_le _) (Nat.zero_le _) ⟨rfl, rfl⟩
set_option maxHeartbeats 1000000 in
set_option maxRecDepth 20000 in
theorem wDown (O : Nat → Int32) (P : Nat → Nat → Int32) (Y : Nat → Nat → Int64) (g : Nat → zC) (hu : (O 1).toInt ≤ 120) {dd : Nat} (hd : dd < 40) (N D : Nat → Int32) (dg : Int32) : zK 2 zX5_stepDown [.ref 55, .ref 1, .int dg] (wX (upd O 14 (nI (dd))) (updA (updA P 56 (N)) 57 (D)) Y g) (fun r w' => w' = (wX (upd O 14 (nI ((sdW (O 1) (P 4) (P 5) dg (dd, N, D)).1))) (updA (updA P 56 ((sdW (O 1) (P 4) (P 5) dg (dd, N, D)).2.1)) 57 ((sdW (O 1) (P 4) (P 5) dg (dd, N, D)).2.2)) Y g) ∧ ((((ptW (O 1) (P 4) (P 5) (N dd) dg) = Int32.ofInt (-1) ∨ 40 ≤ dd + 1) ∧ r = some (.int 0)) ∨ (¬ ((ptW (O 1) (P 4) (P 5) (N dd) dg) = Int32.ofInt (-1) ∨ 40 ≤ dd + 1) ∧ r = some (.int 1)))) := by
  refine zK_of qX5_stepDown (by decide +kernel) rfl ?_
  iterate 2 (refine zv_step (bX5_stepDown 2) rfl rfl trivial ?_)
  refine zv_V0 (bX5_stepDown 2) rfl rfl rfl rfl rfl rfl rfl ⟨rfl, rfl, rfl⟩ ⟨by decide, by decide⟩ ⟨Nat.zero_le _, Nat.zero_le _⟩ (wHere O P Y g hd N D) ?_
  rintro _ _ ⟨rfl, rfl⟩
  iterate 1 (refine zv_step (bX5_stepDown 2) rfl rfl trivial ?_)
  refine zv_V2 (bX5_stepDown 2) rfl rfl rfl rfl rfl rfl rfl ⟨rfl, rfl, rfl⟩ ⟨by decide, by decide⟩ ⟨Nat.zero_le _, Nat.zero_le _⟩ (show zK 1 zX2_partOf [.ref 1, .int (N dd), .int dg] (wX (upd O 14 (nI (dd))) (updA (updA P 56 (N)) 57 (D)) Y g) (fun r w' => w' = (wX (upd O 14 (nI (dd))) (updA (updA P 56 (N)) 57 (D)) Y g) ∧ r = some (.int (ptW (O 1) (P 4) (P 5) (N dd) dg))) from pPt1 (upd O 14 (nI dd)) (updA (updA P 56 N) 57 D) Y g hu (N dd) dg) ?_
  rintro _ _ ⟨rfl, rfl⟩
  iterate 4 (refine zv_step (bX5_stepDown 2) rfl rfl trivial ?_)
  refine zv_ifb (fun hp => ?_) (fun hp => ?_)
  · iterate 1 (refine zv_step (bX5_stepDown 2) rfl rfl trivial ?_)
    exact zv_iret (bX5_stepDown 2) rfl (Or.inr ⟨rfl, Or.inl rfl⟩) (Nat.zero_le _) (Nat.zero_le _) ⟨by rw [show (sdW (O 1) (P 4) (P 5) dg (dd, N, D)) = (dd, N, D) from if_pos (Or.inl hp)], Or.inl ⟨Or.inl hp, rfl⟩⟩
  · iterate 6 (refine zv_step (bX5_stepDown 2) rfl rfl trivial ?_)
    refine zv_ifb (fun hc => ?_) (fun hc => ?_)
    · have hc : nI dd + Int32.ofInt 1 < c8 40 := hc
      rw [show nI dd + Int32.ofInt 1 = nI (dd + 1) from nI_1 dd, e40, nI_ltI (by omega) (by decide)] at hc
      iterate 6 (refine zv_step (bX5_stepDown 2) rfl rfl trivial ?_)
      show zV _ _ _ _ _ 38 _ [] (wX (upd O 14 (nI dd + Int32.ofInt 1)) (updA (updA P 56 (N)) 57 (D)) Y g) _
      rw [show nI dd + Int32.ofInt 1 = nI (dd + 1) from nI_1 dd]
      iterate 5 (refine zv_step (bX5_stepDown 2) rfl rfl trivial ?_)
      refine zv_step (bX5_stepDown 2) rfl rfl (show vp_in (nI (dd + 1)) 40 from vp_in_nI (by omega) (by decide)) ?_
      iterate 5 (refine zv_step (bX5_stepDown 2) rfl rfl trivial ?_)
      refine zv_step (bX5_stepDown 2) rfl rfl (show vp_in (nI (dd + 1)) 40 from vp_in_nI (by omega) (by decide)) ?_
      iterate 1 (refine zv_step (bX5_stepDown 2) rfl rfl trivial ?_)
      exact zv_iret (bX5_stepDown 2) rfl (Or.inr ⟨rfl, Or.inr rfl⟩) (Nat.zero_le _) (Nat.zero_le _) ⟨by rw [show (sdW (O 1) (P 4) (P 5) dg (dd, N, D)) = (dd + 1, upd N (dd + 1) (ptW (O 1) (P 4) (P 5) (N dd) dg), upd D (dd + 1) dg) from if_neg (fun q => q.elim hp (by omega))]; show wX (upd O 14 (nI (dd + 1))) (updA (updA P 56 (upd N (nI (dd + 1)).toNatClampNeg (ptW (O 1) (P 4) (P 5) (N dd) dg))) 57 (upd D (nI (dd + 1)).toNatClampNeg dg)) Y g = _; rw [nI_clamp (by omega)], Or.inr ⟨fun q => q.elim hp (by omega), rfl⟩⟩
    · have hc : ¬ nI dd + Int32.ofInt 1 < c8 40 := hc
      rw [show nI dd + Int32.ofInt 1 = nI (dd + 1) from nI_1 dd, e40, nI_ltI (by omega) (by decide)] at hc
      iterate 1 (refine zv_step (bX5_stepDown 2) rfl rfl trivial ?_)
      exact zv_iret (bX5_stepDown 2) rfl (Or.inr ⟨rfl, Or.inl rfl⟩) (Nat.zero_le _) (Nat.zero_le _) ⟨by rw [show (sdW (O 1) (P 4) (P 5) dg (dd, N, D)) = (dd, N, D) from if_pos (Or.inr (by omega))], Or.inl ⟨Or.inr (by omega), rfl⟩⟩
set_option maxHeartbeats 1000000 in
set_option maxRecDepth 20000 in
theorem wUp (O : Nat → Int32) (P : Nat → Nat → Int32) (Y : Nat → Nat → Int64) (g : Nat → zC) {dd : Nat} (hd : dd < 40) (N D : Nat → Int32) : zK 0 zX5_stepUp [.ref 55] (wX (upd O 14 (nI (dd))) (updA (updA P 56 (N)) 57 (D)) Y g) (fun r w' => w' = (wX (upd O 14 (nI (dd - 1))) (updA (updA P 56 (N)) 57 (D)) Y g) ∧ ((dd = 0 ∧ r = some (.int 0)) ∨ (¬ dd = 0 ∧ r = some (.int 1)))) := by
  refine zK_of qX5_stepUp (by decide +kernel) rfl ?_
  iterate 3 (refine zv_step (bX5_stepUp 0) rfl rfl trivial ?_)
  refine zv_ifb (fun hc => ?_) (fun hc => ?_)
  · have hc : ¬ nI dd = 0 := hc
    obtain ⟨m, rfl⟩ : ∃ m, dd = m + 1 := ⟨dd - 1, by have : dd ≠ 0 := fun q => hc (by rw [q]; rfl); omega⟩
    iterate 7 (refine zv_step (bX5_stepUp 0) rfl rfl trivial ?_)
    exact zv_iret (bX5_stepUp 0) rfl (Or.inr ⟨rfl, Or.inr rfl⟩) (Nat.zero_le _) (Nat.zero_le _) ⟨by show wX (upd O 14 (nI (m + 1) - Int32.ofInt 1)) (updA (updA P 56 N) 57 D) Y g = _; rw [nI_m1]; rfl, Or.inr ⟨by omega, rfl⟩⟩
  · have hc : ¬ ¬ nI dd = 0 := hc
    have h0 : dd = 0 := by by_cases q : dd = 0; exact q; exact absurd (nI_ne0 (by omega) (by omega)) hc
    subst h0
    iterate 1 (refine zv_step (bX5_stepUp 0) rfl rfl trivial ?_)
    exact zv_iret (bX5_stepUp 0) rfl (Or.inr ⟨rfl, Or.inl rfl⟩) (Nat.zero_le _) (Nat.zero_le _) ⟨rfl, Or.inl ⟨rfl, rfl⟩⟩
