set_option maxHeartbeats 1000000 in
set_option maxRecDepth 20000 in
theorem cWeighT (O : Nat → Int32) (P : Nat → Nat → Int32) (Y : Nat → Nat → Int64) (g : Nat → zC) {s : Nat} (hs : s < 8) (a : Int32) {n0 : Nat} : zV (zMo 0 zX3_weighNode) false n0 0 0 12 [(1, .int a), (0, .ref (59 + 2 * s))] [.int (O (22 + 10 * s))] (wX O P Y g) (fun r w' => w' = wX O P Y g ∧ ∃ v : Int32, r = some (.int v)) := by
  by_cases hd : (O (22 + 10 * s)).toInt < 1 ∨ 9 < (O (22 + 10 * s)).toInt
  · refine zv_step (bX3_weighNode 0) rfl rfl (by decide) ?_
    rw [if_pos hd]
    iterate 1 (refine zv_step (bX3_weighNode 0) rfl rfl trivial ?_)
    exact zv_iret (bX3_weighNode 0) rfl (Or.inl rfl) (Nat.zero_le _) (Nat.zero_le _) ⟨rfl, _, rfl⟩
  · obtain ⟨c, hc, e⟩ : ∃ c : Nat, c < 9 ∧ O (22 + 10 * s) = nI (c + 1) := by
      refine ⟨(O (22 + 10 * s)).toInt.toNat - 1, by omega, ?_⟩
      rw [← Int32.toInt_inj, nI_toInt (by omega)]
      omega
    rw [e]
    match c, hc with
    | 0, _ =>
      refine zv_step (bX3_weighNode 0) rfl rfl (by decide) ?_
      iterate 2 (refine zv_step (bX3_weighNode 0) rfl rfl trivial ?_)
      refine zv_getf (bX3_weighNode 0) rfl (wS O P Y g hs) rfl ?_
      iterate 1 (refine zv_step (bX3_weighNode 0) rfl rfl trivial ?_)
      exact zv_iret (bX3_weighNode 0) rfl (Or.inl rfl) (Nat.zero_le _) (Nat.zero_le _) ⟨rfl, _, rfl⟩
    | 1, _ =>
      refine zv_step (bX3_weighNode 0) rfl rfl (by decide) ?_
      iterate 1 (refine zv_step (bX3_weighNode 0) rfl rfl trivial ?_)
      exact zv_iret (bX3_weighNode 0) rfl (Or.inl rfl) (Nat.zero_le _) (Nat.zero_le _) ⟨rfl, _, rfl⟩
    | 2, _ =>
      refine zv_step (bX3_weighNode 0) rfl rfl (by decide) ?_
      iterate 1 (refine zv_step (bX3_weighNode 0) rfl rfl trivial ?_)
      exact zv_iret (bX3_weighNode 0) rfl (Or.inl rfl) (Nat.zero_le _) (Nat.zero_le _) ⟨rfl, _, rfl⟩
    | 3, _ =>
      refine zv_step (bX3_weighNode 0) rfl rfl (by decide) ?_
      iterate 1 (refine zv_step (bX3_weighNode 0) rfl rfl trivial ?_)
      exact zv_iret (bX3_weighNode 0) rfl (Or.inl rfl) (Nat.zero_le _) (Nat.zero_le _) ⟨rfl, _, rfl⟩
    | 4, _ =>
      refine zv_step (bX3_weighNode 0) rfl rfl (by decide) ?_
      iterate 3 (refine zv_step (bX3_weighNode 0) rfl rfl trivial ?_)
      exact zv_iret (bX3_weighNode 0) rfl (Or.inl rfl) (Nat.zero_le _) (Nat.zero_le _) ⟨rfl, _, rfl⟩
    | 5, _ =>
      refine zv_step (bX3_weighNode 0) rfl rfl (by decide) ?_
      iterate 3 (refine zv_step (bX3_weighNode 0) rfl rfl trivial ?_)
      exact zv_iret (bX3_weighNode 0) rfl (Or.inl rfl) (Nat.zero_le _) (Nat.zero_le _) ⟨rfl, _, rfl⟩
    | 6, _ =>
      refine zv_step (bX3_weighNode 0) rfl rfl (by decide) ?_
      iterate 1 (refine zv_step (bX3_weighNode 0) rfl rfl trivial ?_)
      exact zv_iret (bX3_weighNode 0) rfl (Or.inl rfl) (Nat.zero_le _) (Nat.zero_le _) ⟨rfl, _, rfl⟩
    | 7, _ =>
      refine zv_step (bX3_weighNode 0) rfl rfl (by decide) ?_
      iterate 3 (refine zv_step (bX3_weighNode 0) rfl rfl trivial ?_)
      exact zv_iret (bX3_weighNode 0) rfl (Or.inl rfl) (Nat.zero_le _) (Nat.zero_le _) ⟨rfl, _, rfl⟩
    | 8, _ =>
      refine zv_step (bX3_weighNode 0) rfl rfl (by decide) ?_
      iterate 3 (refine zv_step (bX3_weighNode 0) rfl rfl trivial ?_)
      exact zv_iret (bX3_weighNode 0) rfl (Or.inl rfl) (Nat.zero_le _) (Nat.zero_le _) ⟨rfl, _, rfl⟩
    | c + 9, h => exact absurd h (by omega)
set_option maxHeartbeats 1000000 in
set_option maxRecDepth 20000 in
theorem cWeigh (O : Nat → Int32) (P : Nat → Nat → Int32) (Y : Nat → Nat → Int64) (g : Nat → zC) {s : Nat} (hs : s < 8) : zK 0 zX3_weighNode [.ref (59 + 2 * s)] (wX O P Y g) (fun r w' => w' = wX O P Y g ∧ ∃ v : Int32, r = some (.int v)) := by
  refine zK_of qX3_weighNode (by decide +kernel) rfl ?_
  iterate 1 (refine zv_step (bX3_weighNode 0) rfl rfl trivial ?_)
  refine zv_getf (bX3_weighNode 0) rfl (wS O P Y g hs) rfl ?_
  iterate 4 (refine zv_step (bX3_weighNode 0) rfl rfl trivial ?_)
  refine zv_getf (bX3_weighNode 0) rfl (wS O P Y g hs) rfl ?_
  exact cWeighT O P Y g hs _
set_option maxHeartbeats 1000000 in
set_option maxRecDepth 20000 in
theorem cWeight (O : Nat → Int32) (P : Nat → Nat → Int32) (Y : Nat → Nat → Int64) (g : Nat → zC) (x : Int32) : zK 2 zX6_weight [.ref 0, .int x] (wX O P Y g) (fun r w' => w' = wX O P Y g ∧ ∃ v : Int32, r = some (.int v)) := by
  refine zK_of qX6_weight (by decide +kernel) rfl ?_
  iterate 2 (refine zv_step (bX6_weight 2) rfl rfl trivial ?_)
  refine zv_V1 (bX6_weight 2) rfl rfl rfl rfl rfl rfl rfl ⟨rfl, rfl, rfl⟩ ⟨by decide, by decide⟩ ⟨Nat.zero_le _, Nat.zero_le _⟩ (cRefusal O P Y g _) ?_
  rintro _ _ ⟨rfl, v, rfl, hv⟩
  iterate 3 (refine zv_step (bX6_weight 2) rfl rfl trivial ?_)
  refine zv_ifb (fun h1 => ?_) (fun h1 => ?_)
  · obtain ⟨s, hs, rfl⟩ := hv h1
    iterate 1 (refine zv_step (bX6_weight 2) rfl rfl trivial ?_)
    refine zv_getf (bX6_weight 2) rfl (rfl) rfl ?_
    iterate 1 (refine zv_step (bX6_weight 2) rfl rfl trivial ?_)
    refine zv_aald (bX6_weight 2) rfl (Or.inl rfl) rfl (show vp_in (nI s) 8 from vp_in_nI (by omega) (by decide)) (show ([some 59, some 61, some 63, some 65, some 67, some 69, some 71, some 73] : List (Option Nat)).getD (nI s).toNatClampNeg none = some (59 + 2 * s) by rw [nI_clamp (by omega)]; exact dSs hs) ?_
    refine zv_V0 (bX6_weight 2) rfl rfl rfl (wS O P Y g hs) rfl rfl rfl ⟨rfl, rfl, rfl⟩ ⟨by decide, by decide⟩ ⟨Nat.zero_le _, Nat.zero_le _⟩ (cWeigh O P Y g hs) ?_
    rintro _ _ ⟨rfl, v2, rfl⟩
    exact zv_iret (bX6_weight 2) rfl (Or.inl rfl) (Nat.zero_le _) (Nat.zero_le _) ⟨rfl, _, rfl⟩
  · iterate 2 (refine zv_step (bX6_weight 2) rfl rfl trivial ?_)
    exact zv_iret (bX6_weight 2) rfl (Or.inl rfl) (Nat.zero_le _) (Nat.zero_le _) ⟨rfl, _, rfl⟩
