section ZAL
variable {M : zM} {al : Bool} {n0 kc ks pc nxt a b : Nat} {c0 : Int} {l : zL} {st rest : List Value} {w : zW} {Q : Option Value → zW → Prop} {tb : List zE}
theorem zv_alen (ok : zTb M tb) (hlook : zlook tb pc = some (.arraylength, nxt, a, b, c0)) {k n : Nat} {f : Nat → Int32} (hw : w[k]? = some (zI 0 n f)) (kk : zV M al n0 kc ks nxt l (.int (Int32.ofNat n) :: st) w Q) : zV M al n0 kc ks pc l (.ref k :: st) w Q := by
  refine zv_step ok hlook (P := True) (pc' := nxt) (l' := l) (st' := .int (Int32.ofNat n) :: st) (w' := w) ?_ trivial kk
  simp only [zstep, hw]
end ZAL
set_option maxHeartbeats 1000000 in
set_option maxRecDepth 20000 in
theorem pLayF (O : Nat → Int32) (Y : Nat → Nat → Int64) (g : Nat → zC) (hu : (O 1).toInt ≤ 120) {s : Nat} (hs : s < 8) : ∀ (f : Nat) (P : Nat → Nat → Int32) (n : Int32) (q : Nat) (y z : Int32), y = nI q → z = nI f → q ≤ 60 → f < 100 → zK (f + 1) zX2_layKindsFrom [.ref 1, .int n, .ref (60 + 2 * s), .int y, .int z] (wX O P Y g) (fun r w' => ∃ (q' : Nat) (P' : Nat → Nat → Int32), r = some (.int (nI q')) ∧ q' ≤ 60 ∧ w' = wX O P' Y g ∧ ∀ j, j ≠ 60 + 2 * s → P' j = P j) := by
  intro f
  induction f with
  | zero =>
    intro P n q y z ey ez hq hf
    subst ey ez
    refine zK_of qX2_layKindsFrom (by decide +kernel) rfl ?_
    iterate 2 (refine zv_step (bX2_layKindsFrom (0 + 1)) rfl rfl trivial ?_)
    refine zv_V1 (bX2_layKindsFrom (0 + 1)) rfl rfl rfl rfl rfl rfl rfl ⟨rfl, rfl, rfl⟩ ⟨by decide, by decide⟩ ⟨Nat.zero_le _, Nat.zero_le _⟩ (pHas1 O P Y g _) ?_
    rintro _ _ ⟨rfl, ⟨hh, rfl⟩ | ⟨hh, rfl⟩⟩
    · iterate 1 (refine zv_step (bX2_layKindsFrom (0 + 1)) rfl rfl trivial ?_)
      refine zv_iff (by decide) ?_
      iterate 2 (refine zv_step (bX2_layKindsFrom (0 + 1)) rfl rfl trivial ?_)
      refine zv_alen (bX2_layKindsFrom (0 + 1)) rfl (wSr O P Y g hs) ?_
      iterate 1 (refine zv_step (bX2_layKindsFrom (0 + 1)) rfl rfl trivial ?_)
      refine zv_ifb (fun h1 => ?_) (fun h1 => ?_)
      · iterate 1 (refine zv_step (bX2_layKindsFrom (0 + 1)) rfl rfl trivial ?_)
        exact zv_iret (bX2_layKindsFrom (0 + 1)) rfl (Or.inl rfl) (Nat.zero_le _) (Nat.zero_le _) ⟨q, P, rfl, hq, rfl, fun _ _ => rfl⟩
      · iterate 2 (refine zv_step (bX2_layKindsFrom (0 + 1)) rfl rfl trivial ?_)
        refine zv_iff (by decide) ?_
        iterate 1 (refine zv_step (bX2_layKindsFrom (0 + 1)) rfl rfl trivial ?_)
        exact zv_iret (bX2_layKindsFrom (0 + 1)) rfl (Or.inl rfl) (Nat.zero_le _) (Nat.zero_le _) ⟨q, P, rfl, hq, rfl, fun _ _ => rfl⟩
    · iterate 1 (refine zv_step (bX2_layKindsFrom (0 + 1)) rfl rfl trivial ?_)
      refine zv_ift (by decide) ?_
      iterate 1 (refine zv_step (bX2_layKindsFrom (0 + 1)) rfl rfl trivial ?_)
      exact zv_iret (bX2_layKindsFrom (0 + 1)) rfl (Or.inl rfl) (Nat.zero_le _) (Nat.zero_le _) ⟨q, P, rfl, hq, rfl, fun _ _ => rfl⟩
  | succ f ih0 =>
    intro P n q y z ey ez hq hf
    subst ey ez
    have ih : ∀ (P : Nat → Nat → Int32) (n : Int32) (q : Nat) (y z : Int32), y = nI q → z = nI f → q ≤ 60 → zK (f + 1) zX2_layKindsFrom [.ref 1, .int n, .ref (60 + 2 * s), .int y, .int z] (wX O P Y g) (fun r w' => ∃ (q' : Nat) (P' : Nat → Nat → Int32), r = some (.int (nI q')) ∧ q' ≤ 60 ∧ w' = wX O P' Y g ∧ ∀ j, j ≠ 60 + 2 * s → P' j = P j) := fun P n q y z a b c => ih0 P n q y z a b c (by omega)
    refine zK_of qX2_layKindsFrom (by decide +kernel) rfl ?_
    iterate 2 (refine zv_step (bX2_layKindsFrom (f + 1 + 1)) rfl rfl trivial ?_)
    refine zv_V1 (bX2_layKindsFrom (f + 1 + 1)) rfl rfl rfl rfl rfl rfl rfl ⟨rfl, rfl, rfl⟩ ⟨by show 0 + 1 ≤ f + 1 + 1; omega, by show 8 + (2 + 11) + 64 * (0) ≤ 64 * (f + 1 + 1); omega⟩ ⟨Nat.zero_le _, Nat.zero_le _⟩ (pHas1 O P Y g _) ?_
    rintro _ _ ⟨rfl, ⟨hh, rfl⟩ | ⟨hh, rfl⟩⟩
    · iterate 1 (refine zv_step (bX2_layKindsFrom (f + 1 + 1)) rfl rfl trivial ?_)
      refine zv_iff (by decide) ?_
      iterate 2 (refine zv_step (bX2_layKindsFrom (f + 1 + 1)) rfl rfl trivial ?_)
      refine zv_alen (bX2_layKindsFrom (f + 1 + 1)) rfl (wSr O P Y g hs) ?_
      iterate 1 (refine zv_step (bX2_layKindsFrom (f + 1 + 1)) rfl rfl trivial ?_)
      refine zv_ifb (fun h1 => ?_) (fun h1 => ?_)
      · iterate 1 (refine zv_step (bX2_layKindsFrom (f + 1 + 1)) rfl rfl trivial ?_)
        exact zv_iret (bX2_layKindsFrom (f + 1 + 1)) rfl (Or.inl rfl) (Nat.zero_le _) (Nat.zero_le _) ⟨q, P, rfl, hq, rfl, fun _ _ => rfl⟩
      · have h1 : ¬ Int32.ofNat 60 ≤ nI q := h1
        rw [show Int32.ofNat 60 = nI 60 from rfl, nI_leI (by omega) (by omega)] at h1
        iterate 2 (refine zv_step (bX2_layKindsFrom (f + 1 + 1)) rfl rfl trivial ?_)
        refine zv_ifb (fun h2 => ?_) (fun h2 => ?_)
        · iterate 5 (refine zv_step (bX2_layKindsFrom (f + 1 + 1)) rfl rfl trivial ?_)
          refine zv_step (bX2_layKindsFrom (f + 1 + 1)) rfl rfl (vp_in_iff.mpr ⟨hh.1, Int.lt_of_lt_of_le hh.2 hu⟩) ?_
          refine zv_iast (bX2_layKindsFrom (f + 1 + 1)) rfl (wSr O P Y g hs) (show vp_in (nI q) 60 from vp_in_nI (by omega) (by decide)) ?_
          refine zv_world (wSrset O P Y g _ hs) ?_
          iterate 4 (refine zv_step (bX2_layKindsFrom (f + 1 + 1)) rfl rfl trivial ?_)
          refine zv_step (bX2_layKindsFrom (f + 1 + 1)) rfl rfl (vp_in_iff.mpr ⟨hh.1, Int.lt_of_lt_of_le hh.2 hu⟩) ?_
          iterate 7 (refine zv_step (bX2_layKindsFrom (f + 1 + 1)) rfl rfl trivial ?_)
          refine zv_V4 (bX2_layKindsFrom (f + 1 + 1)) rfl rfl rfl rfl rfl rfl rfl ⟨rfl, rfl, rfl⟩ ⟨by show f + 1 + 1 ≤ f + 1 + 1; omega, by show 8 + (6 + 11) + 64 * (f + 1) ≤ 64 * (f + 1 + 1); omega⟩ ⟨Nat.zero_le _, Nat.zero_le _⟩ (ih _ _ (q + 1) _ _ (nI_1 q) (sub_1 (by omega)) (by omega)) ?_
          rintro _ _ ⟨q1, P1, rfl, hq1, rfl, hP1⟩
          iterate 5 (refine zv_step (bX2_layKindsFrom (f + 1 + 1)) rfl rfl trivial ?_)
          refine zv_step (bX2_layKindsFrom (f + 1 + 1)) rfl rfl (vp_in_iff.mpr ⟨hh.1, Int.lt_of_lt_of_le hh.2 hu⟩) ?_
          iterate 5 (refine zv_step (bX2_layKindsFrom (f + 1 + 1)) rfl rfl trivial ?_)
          refine zv_V4 (bX2_layKindsFrom (f + 1 + 1)) rfl rfl rfl rfl rfl rfl rfl ⟨rfl, rfl, rfl⟩ ⟨by show f + 1 + 1 ≤ f + 1 + 1; omega, by show 8 + (6 + 11) + 64 * (f + 1) ≤ 64 * (f + 1 + 1); omega⟩ ⟨Nat.zero_le _, Nat.zero_le _⟩ (ih _ _ q1 _ _ rfl (sub_1 (by omega)) hq1) ?_
          rintro _ _ ⟨q2, P2, rfl, hq2, rfl, hP2⟩
          exact zv_iret (bX2_layKindsFrom (f + 1 + 1)) rfl (Or.inl rfl) (Nat.zero_le _) (Nat.zero_le _) ⟨q2, P2, rfl, hq2, rfl, fun j hj => (hP2 j hj).trans ((hP1 j hj).trans (updA_ne _ _ hj))⟩
        · iterate 1 (refine zv_step (bX2_layKindsFrom (f + 1 + 1)) rfl rfl trivial ?_)
          exact zv_iret (bX2_layKindsFrom (f + 1 + 1)) rfl (Or.inl rfl) (Nat.zero_le _) (Nat.zero_le _) ⟨q, P, rfl, hq, rfl, fun _ _ => rfl⟩
    · iterate 1 (refine zv_step (bX2_layKindsFrom (f + 1 + 1)) rfl rfl trivial ?_)
      refine zv_ift (by decide) ?_
      iterate 1 (refine zv_step (bX2_layKindsFrom (f + 1 + 1)) rfl rfl trivial ?_)
      exact zv_iret (bX2_layKindsFrom (f + 1 + 1)) rfl (Or.inl rfl) (Nat.zero_le _) (Nat.zero_le _) ⟨q, P, rfl, hq, rfl, fun _ _ => rfl⟩
set_option maxHeartbeats 1000000 in
set_option maxRecDepth 20000 in
theorem pLay (O : Nat → Int32) (P : Nat → Nat → Int32) (Y : Nat → Nat → Int64) (g : Nat → zC) (hu : (O 1).toInt ≤ 120) {s : Nat} (hs : s < 8) (n : Int32) : zK 42 zX2_layKinds [.ref 1, .int n, .ref (60 + 2 * s)] (wX O P Y g) (fun r w' => r = none ∧ ∃ P' : Nat → Nat → Int32, w' = wX O P' Y g ∧ ∀ j, j ≠ 60 + 2 * s → P' j = P j) := by
  refine zK_of qX2_layKinds (by decide +kernel) rfl ?_
  iterate 5 (refine zv_step (bX2_layKinds 42) rfl rfl trivial ?_)
  refine zv_V4 (bX2_layKinds 42) rfl rfl rfl rfl rfl rfl rfl ⟨rfl, rfl, rfl⟩ ⟨by decide, by decide⟩ ⟨Nat.zero_le _, Nat.zero_le _⟩ (pLayF O Y g hu hs 40 P _ 0 _ _ rfl rfl (by omega) (by omega)) ?_
  rintro _ _ ⟨q1, P1, rfl, hq1, rfl, hP1⟩
  iterate 1 (refine zv_step (bX2_layKinds 42) rfl rfl trivial ?_)
  exact zv_ret (bX2_layKinds 42) rfl rfl (Nat.zero_le _) (Nat.zero_le _) ⟨rfl, P1, rfl, hP1⟩
