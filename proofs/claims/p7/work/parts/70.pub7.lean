theorem dSs : ∀ {s : Nat}, s < 8 → ([some 59, some 61, some 63, some 65, some 67, some 69, some 71, some 73] : List (Option Nat)).getD s none = some (59 + 2 * s) := by
  intro s hs
  match s, hs with
  | 0, _ => rfl
  | 1, _ => rfl
  | 2, _ => rfl
  | 3, _ => rfl
  | 4, _ => rfl
  | 5, _ => rfl
  | 6, _ => rfl
  | 7, _ => rfl
  | n + 8, h => exact absurd h (by omega)
theorem sh_of {x : Int32} (h : 0 ≤ x.toInt ∧ x.toInt ≤ 7) : ∃ s : Nat, s < 8 ∧ x = nI s := by
  refine ⟨x.toInt.toNat, by omega, ?_⟩
  rw [← Int32.toInt_inj, nI_toInt (by omega)]
  omega
set_option maxHeartbeats 1000000 in
set_option maxRecDepth 20000 in
theorem cMake (O : Nat → Int32) (P : Nat → Nat → Int32) (Y : Nat → Nat → Int64) (g : Nat → zC) (x k n : Int32) : zK 1 zX6_make [.ref 0, .int x, .int k, .int n] (wX O P Y g) (fun r w' => (∃ R : Int32, r = some (.int R)) ∧ (w' = wX O P Y g ∨ ∃ (s : Nat) (a : Int32) (m : Nat) (P' : Nat → Nat → Int32), s < 8 ∧ m ≤ 60 ∧ w' = wX (upd (upd O (20 + 10 * s) a) (24 + 10 * s) (nI m)) P' Y g ∧ ∀ j, j ≠ 60 + 2 * s → P' j = P j)) := by
  refine zK_of qX6_make (by decide +kernel) rfl ?_
  iterate 1 (refine zv_step (bX6_make 1) rfl rfl trivial ?_)
  refine zv_S1 (bX6_make 1) rfl rfl rfl rfl ⟨rfl, rfl, rfl⟩ ⟨by decide, by decide⟩ ⟨Nat.zero_le _, Nat.zero_le _⟩ (hX6_isShelf _ _) ?_
  rintro _ _ ⟨rfl, ⟨hx, rfl⟩ | ⟨hx, rfl⟩⟩
  · iterate 1 (refine zv_step (bX6_make 1) rfl rfl trivial ?_)
    refine zv_iff (by decide) ?_
    obtain ⟨s, hs, rfl⟩ := sh_of hx
    iterate 3 (refine zv_step (bX6_make 1) rfl rfl trivial ?_)
    refine zv_ifb (fun h1 => ?_) (fun h1 => ?_)
    · iterate 3 (refine zv_step (bX6_make 1) rfl rfl trivial ?_)
      refine zv_ifb (fun h3 => ?_) (fun h3 => ?_)
      · iterate 2 (refine zv_step (bX6_make 1) rfl rfl trivial ?_)
        refine zv_ifb (fun h4 => ?_) (fun h4 => ?_)
        · obtain ⟨m, hm, rfl⟩ : ∃ m : Nat, m ≤ 60 ∧ n = nI m := by
            have h3 : n ≤ c8 60 := h3
            have h4 : 0 ≤ n := h4
            rw [Int32.le_iff_toInt_le, i8c 60 (by decide)] at h3
            rw [Int32.le_iff_toInt_le, Int32.toInt_zero] at h4
            refine ⟨n.toInt.toNat, by omega, ?_⟩
            rw [← Int32.toInt_inj, nI_toInt (by omega)]
            omega
          iterate 1 (refine zv_step (bX6_make 1) rfl rfl trivial ?_)
          refine zv_getf (bX6_make 1) rfl (rfl) rfl ?_
          iterate 1 (refine zv_step (bX6_make 1) rfl rfl trivial ?_)
          refine zv_aald (bX6_make 1) rfl (Or.inl rfl) rfl (show vp_in (nI s) 8 from vp_in_nI (by omega) (by decide)) (show ([some 59, some 61, some 63, some 65, some 67, some 69, some 71, some 73] : List (Option Nat)).getD (nI s).toNatClampNeg none = some (59 + 2 * s) by rw [nI_clamp (by omega)]; exact dSs hs) ?_
          iterate 2 (refine zv_step (bX6_make 1) rfl rfl trivial ?_)
          refine zv_V2 (bX6_make 1) rfl rfl rfl (wS O P Y g hs) rfl rfl rfl ⟨rfl, rfl, rfl⟩ ⟨by decide, by decide⟩ ⟨Nat.zero_le _, Nat.zero_le _⟩ (hNoughts O P Y g hs _ _) ?_
          rintro _ _ ⟨rfl, P1, rfl, hP1⟩
          iterate 1 (refine zv_step (bX6_make 1) rfl rfl trivial ?_)
          exact zv_iret (bX6_make 1) rfl (Or.inl rfl) (Nat.zero_le _) (Nat.zero_le _) ⟨⟨_, rfl⟩, Or.inr ⟨s, _, m, P1, hs, hm, rfl, hP1⟩⟩
        · iterate 1 (refine zv_step (bX6_make 1) rfl rfl trivial ?_)
          exact zv_iret (bX6_make 1) rfl (Or.inl rfl) (Nat.zero_le _) (Nat.zero_le _) ⟨⟨_, rfl⟩, Or.inl rfl⟩
      · iterate 1 (refine zv_step (bX6_make 1) rfl rfl trivial ?_)
        exact zv_iret (bX6_make 1) rfl (Or.inl rfl) (Nat.zero_le _) (Nat.zero_le _) ⟨⟨_, rfl⟩, Or.inl rfl⟩
    · iterate 3 (refine zv_step (bX6_make 1) rfl rfl trivial ?_)
      refine zv_ifb (fun h2 => ?_) (fun h2 => ?_)
      · iterate 1 (refine zv_step (bX6_make 1) rfl rfl trivial ?_)
        exact zv_iret (bX6_make 1) rfl (Or.inl rfl) (Nat.zero_le _) (Nat.zero_le _) ⟨⟨_, rfl⟩, Or.inl rfl⟩
      · iterate 3 (refine zv_step (bX6_make 1) rfl rfl trivial ?_)
        refine zv_ifb (fun h3 => ?_) (fun h3 => ?_)
        · iterate 2 (refine zv_step (bX6_make 1) rfl rfl trivial ?_)
          refine zv_ifb (fun h4 => ?_) (fun h4 => ?_)
          · obtain ⟨m, hm, rfl⟩ : ∃ m : Nat, m ≤ 60 ∧ n = nI m := by
              have h3 : n ≤ c8 60 := h3
              have h4 : 0 ≤ n := h4
              rw [Int32.le_iff_toInt_le, i8c 60 (by decide)] at h3
              rw [Int32.le_iff_toInt_le, Int32.toInt_zero] at h4
              refine ⟨n.toInt.toNat, by omega, ?_⟩
              rw [← Int32.toInt_inj, nI_toInt (by omega)]
              omega
            iterate 1 (refine zv_step (bX6_make 1) rfl rfl trivial ?_)
            refine zv_getf (bX6_make 1) rfl (rfl) rfl ?_
            iterate 1 (refine zv_step (bX6_make 1) rfl rfl trivial ?_)
            refine zv_aald (bX6_make 1) rfl (Or.inl rfl) rfl (show vp_in (nI s) 8 from vp_in_nI (by omega) (by decide)) (show ([some 59, some 61, some 63, some 65, some 67, some 69, some 71, some 73] : List (Option Nat)).getD (nI s).toNatClampNeg none = some (59 + 2 * s) by rw [nI_clamp (by omega)]; exact dSs hs) ?_
            iterate 2 (refine zv_step (bX6_make 1) rfl rfl trivial ?_)
            refine zv_V2 (bX6_make 1) rfl rfl rfl (wS O P Y g hs) rfl rfl rfl ⟨rfl, rfl, rfl⟩ ⟨by decide, by decide⟩ ⟨Nat.zero_le _, Nat.zero_le _⟩ (hNoughts O P Y g hs _ _) ?_
            rintro _ _ ⟨rfl, P1, rfl, hP1⟩
            iterate 1 (refine zv_step (bX6_make 1) rfl rfl trivial ?_)
            exact zv_iret (bX6_make 1) rfl (Or.inl rfl) (Nat.zero_le _) (Nat.zero_le _) ⟨⟨_, rfl⟩, Or.inr ⟨s, _, m, P1, hs, hm, rfl, hP1⟩⟩
          · iterate 1 (refine zv_step (bX6_make 1) rfl rfl trivial ?_)
            exact zv_iret (bX6_make 1) rfl (Or.inl rfl) (Nat.zero_le _) (Nat.zero_le _) ⟨⟨_, rfl⟩, Or.inl rfl⟩
        · iterate 1 (refine zv_step (bX6_make 1) rfl rfl trivial ?_)
          exact zv_iret (bX6_make 1) rfl (Or.inl rfl) (Nat.zero_le _) (Nat.zero_le _) ⟨⟨_, rfl⟩, Or.inl rfl⟩
  · iterate 1 (refine zv_step (bX6_make 1) rfl rfl trivial ?_)
    refine zv_ift (by decide) ?_
    iterate 1 (refine zv_step (bX6_make 1) rfl rfl trivial ?_)
    exact zv_iret (bX6_make 1) rfl (Or.inl rfl) (Nat.zero_le _) (Nat.zero_le _) ⟨⟨_, rfl⟩, Or.inl rfl⟩
set_option maxHeartbeats 1000000 in
set_option maxRecDepth 20000 in
theorem cRefusal (O : Nat → Int32) (P : Nat → Nat → Int32) (Y : Nat → Nat → Int64) (g : Nat → zC) (x : Int32) : zK 1 zX6_nodeRefusal [.ref 0, .int x] (wX O P Y g) (fun r w' => w' = wX O P Y g ∧ ∃ v : Int32, r = some (.int v) ∧ (0 ≤ v → ∃ s : Nat, s < 8 ∧ x = nI s)) := by
  refine zK_of qX6_nodeRefusal (by decide +kernel) rfl ?_
  iterate 1 (refine zv_step (bX6_nodeRefusal 1) rfl rfl trivial ?_)
  refine zv_S1 (bX6_nodeRefusal 1) rfl rfl rfl rfl ⟨rfl, rfl, rfl⟩ ⟨by decide, by decide⟩ ⟨Nat.zero_le _, Nat.zero_le _⟩ (hX6_isShelf _ _) ?_
  rintro _ _ ⟨rfl, ⟨hx, rfl⟩ | ⟨hx, rfl⟩⟩
  · iterate 1 (refine zv_step (bX6_nodeRefusal 1) rfl rfl trivial ?_)
    refine zv_ift (by decide) ?_
    obtain ⟨s, hs, rfl⟩ := sh_of hx
    iterate 1 (refine zv_step (bX6_nodeRefusal 1) rfl rfl trivial ?_)
    refine zv_getf (bX6_nodeRefusal 1) rfl (rfl) rfl ?_
    iterate 1 (refine zv_step (bX6_nodeRefusal 1) rfl rfl trivial ?_)
    refine zv_aald (bX6_nodeRefusal 1) rfl (Or.inl rfl) rfl (show vp_in (nI s) 8 from vp_in_nI (by omega) (by decide)) (show ([some 59, some 61, some 63, some 65, some 67, some 69, some 71, some 73] : List (Option Nat)).getD (nI s).toNatClampNeg none = some (59 + 2 * s) by rw [nI_clamp (by omega)]; exact dSs hs) ?_
    refine zv_getf (bX6_nodeRefusal 1) rfl (wS O P Y g hs) rfl ?_
    iterate 1 (refine zv_step (bX6_nodeRefusal 1) rfl rfl trivial ?_)
    refine zv_ifb (fun h1 => ?_) (fun h1 => ?_)
    · iterate 1 (refine zv_step (bX6_nodeRefusal 1) rfl rfl trivial ?_)
      refine zv_getf (bX6_nodeRefusal 1) rfl (rfl) rfl ?_
      iterate 1 (refine zv_step (bX6_nodeRefusal 1) rfl rfl trivial ?_)
      refine zv_aald (bX6_nodeRefusal 1) rfl (Or.inl rfl) rfl (show vp_in (nI s) 8 from vp_in_nI (by omega) (by decide)) (show ([some 59, some 61, some 63, some 65, some 67, some 69, some 71, some 73] : List (Option Nat)).getD (nI s).toNatClampNeg none = some (59 + 2 * s) by rw [nI_clamp (by omega)]; exact dSs hs) ?_
      refine zv_getf (bX6_nodeRefusal 1) rfl (wS O P Y g hs) rfl ?_
      iterate 2 (refine zv_step (bX6_nodeRefusal 1) rfl rfl trivial ?_)
      refine zv_ifb (fun h2 => ?_) (fun h2 => ?_)
      · iterate 1 (refine zv_step (bX6_nodeRefusal 1) rfl rfl trivial ?_)
        exact zv_iret (bX6_nodeRefusal 1) rfl (Or.inl rfl) (Nat.zero_le _) (Nat.zero_le _) ⟨rfl, _, rfl, fun q => absurd q (by decide)⟩
      · iterate 2 (refine zv_step (bX6_nodeRefusal 1) rfl rfl trivial ?_)
        exact zv_iret (bX6_nodeRefusal 1) rfl (Or.inl rfl) (Nat.zero_le _) (Nat.zero_le _) ⟨rfl, _, rfl, fun _ => ⟨s, hs, rfl⟩⟩
    · iterate 1 (refine zv_step (bX6_nodeRefusal 1) rfl rfl trivial ?_)
      exact zv_iret (bX6_nodeRefusal 1) rfl (Or.inl rfl) (Nat.zero_le _) (Nat.zero_le _) ⟨rfl, _, rfl, fun q => absurd q (by decide)⟩
  · iterate 1 (refine zv_step (bX6_nodeRefusal 1) rfl rfl trivial ?_)
    refine zv_iff (by decide) ?_
    iterate 1 (refine zv_step (bX6_nodeRefusal 1) rfl rfl trivial ?_)
    exact zv_iret (bX6_nodeRefusal 1) rfl (Or.inl rfl) (Nat.zero_le _) (Nat.zero_le _) ⟨rfl, _, rfl, fun q => absurd q (by decide)⟩
set_option maxHeartbeats 1000000 in
set_option maxRecDepth 20000 in
theorem cToss (O : Nat → Int32) (P : Nat → Nat → Int32) (Y : Nat → Nat → Int64) (g : Nat → zC) (x : Int32) : zK 2 zX6_toss [.ref 0, .int x] (wX O P Y g) (fun r w' => w' = wX O P Y g ∧ ∃ v : Int32, r = some (.int v)) := by
  refine zK_of qX6_toss (by decide +kernel) rfl ?_
  iterate 2 (refine zv_step (bX6_toss 2) rfl rfl trivial ?_)
  refine zv_V1 (bX6_toss 2) rfl rfl rfl rfl rfl rfl rfl ⟨rfl, rfl, rfl⟩ ⟨by decide, by decide⟩ ⟨Nat.zero_le _, Nat.zero_le _⟩ (cRefusal O P Y g _) ?_
  rintro _ _ ⟨rfl, v, rfl, hv⟩
  iterate 3 (refine zv_step (bX6_toss 2) rfl rfl trivial ?_)
  refine zv_ifb (fun h1 => ?_) (fun h1 => ?_)
  · obtain ⟨s, hs, rfl⟩ := hv h1
    iterate 1 (refine zv_step (bX6_toss 2) rfl rfl trivial ?_)
    refine zv_getf (bX6_toss 2) rfl (rfl) rfl ?_
    iterate 1 (refine zv_step (bX6_toss 2) rfl rfl trivial ?_)
    refine zv_aald (bX6_toss 2) rfl (Or.inl rfl) rfl (show vp_in (nI s) 8 from vp_in_nI (by omega) (by decide)) (show ([some 59, some 61, some 63, some 65, some 67, some 69, some 71, some 73] : List (Option Nat)).getD (nI s).toNatClampNeg none = some (59 + 2 * s) by rw [nI_clamp (by omega)]; exact dSs hs) ?_
    refine zv_getf (bX6_toss 2) rfl (wS O P Y g hs) rfl ?_
    iterate 2 (refine zv_step (bX6_toss 2) rfl rfl trivial ?_)
    refine zv_ifb (fun h2 => ?_) (fun h2 => ?_)
    · iterate 1 (refine zv_step (bX6_toss 2) rfl rfl trivial ?_)
      refine zv_getf (bX6_toss 2) rfl (rfl) rfl ?_
      iterate 1 (refine zv_step (bX6_toss 2) rfl rfl trivial ?_)
      refine zv_aald (bX6_toss 2) rfl (Or.inl rfl) rfl (show vp_in (nI s) 8 from vp_in_nI (by omega) (by decide)) (show ([some 59, some 61, some 63, some 65, some 67, some 69, some 71, some 73] : List (Option Nat)).getD (nI s).toNatClampNeg none = some (59 + 2 * s) by rw [nI_clamp (by omega)]; exact dSs hs) ?_
      refine zv_getf (bX6_toss 2) rfl (wS O P Y g hs) rfl ?_
      exact zv_iret (bX6_toss 2) rfl (Or.inl rfl) (Nat.zero_le _) (Nat.zero_le _) ⟨rfl, _, rfl⟩
    · iterate 2 (refine zv_step (bX6_toss 2) rfl rfl trivial ?_)
      exact zv_iret (bX6_toss 2) rfl (Or.inl rfl) (Nat.zero_le _) (Nat.zero_le _) ⟨rfl, _, rfl⟩
  · iterate 1 (refine zv_step (bX6_toss 2) rfl rfl trivial ?_)
    exact zv_iret (bX6_toss 2) rfl (Or.inl rfl) (Nat.zero_le _) (Nat.zero_le _) ⟨rfl, _, rfl⟩
