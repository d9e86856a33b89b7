set_option maxHeartbeats 1000000 in
set_option maxRecDepth 20000 in
theorem cKeepT (O : Nat → Int32) (P : Nat → Nat → Int32) (Y : Nat → Nat → Int64) (g : Nat → zC) {u : Nat} (hu0 : u ≤ 120) (h1 : O 1 = nI u) (hp : pgI u (P 2) (P 4) (P 5) (P 6)) {l : Nat} (hl : l ≤ 20) (hO : O 9 = nI l) {s : Nat} (hs : s < 8) (x n : Int32) {n0 : Nat} : zV (zMo 44 zX6_keep) false n0 0 0 9 [(0, .ref 0), (1, .int (nI s)), (2, .int x), (3, .int n)] [] (wX O P Y g) (fun r w' => ∃ (O' : Nat → Int32) (P' : Nat → Nat → Int32) (R : Int32) (s : Nat), s < 8 ∧ r = some (.int R) ∧ w' = wX O' P' Y g ∧ shW O P s O' P') := by
  refine zv_step (bX6_keep 44) rfl rfl trivial ?_
  by_cases hd : x.toInt < 0 ∨ 4 < x.toInt
  · refine zv_step (bX6_keep 44) rfl rfl (by decide) ?_
    rw [if_pos hd]
    iterate 1 (refine zv_step (bX6_keep 44) rfl rfl trivial ?_)
    exact zv_iret (bX6_keep 44) rfl (Or.inl rfl) (Nat.zero_le _) (Nat.zero_le _) ⟨O, P, _, s, hs, rfl, rfl, fun _ _ => rfl, fun _ _ => rfl, Or.inl rfl⟩
  · obtain ⟨c, hc, rfl⟩ : ∃ c : Nat, c < 5 ∧ x = nI c := by
      refine ⟨x.toInt.toNat, by omega, ?_⟩
      rw [← Int32.toInt_inj, nI_toInt (by omega)]
      omega
    match c, hc with
    | 0, _ =>
      refine zv_step (bX6_keep 44) rfl rfl (by decide) ?_
      iterate 1 (refine zv_step (bX6_keep 44) rfl rfl trivial ?_)
      refine zv_getf (bX6_keep 44) rfl (rfl) rfl ?_
      iterate 1 (refine zv_step (bX6_keep 44) rfl rfl trivial ?_)
      refine zv_aald (bX6_keep 44) rfl (Or.inl rfl) rfl (show vp_in (nI s) 8 from vp_in_nI (by omega) (by decide)) (show ([some 59, some 61, some 63, some 65, some 67, some 69, some 71, some 73] : List (Option Nat)).getD (nI s).toNatClampNeg none = some (59 + 2 * s) by rw [nI_clamp (by omega)]; exact dSs hs) ?_
      refine zv_V0 (bX6_keep 44) rfl rfl rfl (wS O P Y g hs) rfl rfl rfl ⟨rfl, rfl, rfl⟩ ⟨by decide, by decide⟩ ⟨Nat.zero_le _, Nat.zero_le _⟩ (hDrop O P Y g hs) ?_
      rintro _ _ ⟨rfl, rfl⟩
      iterate 1 (refine zv_step (bX6_keep 44) rfl rfl trivial ?_)
      exact zv_iret (bX6_keep 44) rfl (Or.inl rfl) (Nat.zero_le _) (Nat.zero_le _) ⟨_, P, _, s, hs, rfl, rfl, fun j hj => by rw [upd_ne _ _ (by omega)], fun _ _ => rfl, Or.inl (by rw [upd_ne _ _ (by omega)])⟩
    | 1, _ =>
      refine zv_step (bX6_keep 44) rfl rfl (by decide) ?_
      iterate 2 (refine zv_step (bX6_keep 44) rfl rfl trivial ?_)
      refine zv_getf (bX6_keep 44) rfl (rfl) rfl ?_
      iterate 1 (refine zv_step (bX6_keep 44) rfl rfl trivial ?_)
      refine zv_aald (bX6_keep 44) rfl (Or.inl rfl) rfl (show vp_in (nI s) 8 from vp_in_nI (by omega) (by decide)) (show ([some 59, some 61, some 63, some 65, some 67, some 69, some 71, some 73] : List (Option Nat)).getD (nI s).toNatClampNeg none = some (59 + 2 * s) by rw [nI_clamp (by omega)]; exact dSs hs) ?_
      iterate 2 (refine zv_step (bX6_keep 44) rfl rfl trivial ?_)
      refine zv_V3 (bX6_keep 44) rfl rfl rfl rfl rfl rfl rfl ⟨rfl, rfl, rfl⟩ ⟨by decide, by decide⟩ ⟨Nat.zero_le _, Nat.zero_le _⟩ (cKeepNode O P Y g hu0 h1 hp hs _ _) ?_
      rintro _ _ ⟨O1, P1, R1, rfl, rfl, hW⟩
      exact zv_iret (bX6_keep 44) rfl (Or.inl rfl) (Nat.zero_le _) (Nat.zero_le _) ⟨O1, P1, R1, s, hs, rfl, rfl, hW⟩
    | 2, _ =>
      refine zv_step (bX6_keep 44) rfl rfl (by decide) ?_
      iterate 1 (refine zv_step (bX6_keep 44) rfl rfl trivial ?_)
      exact zv_iret (bX6_keep 44) rfl (Or.inl rfl) (Nat.zero_le _) (Nat.zero_le _) ⟨O, P, _, s, hs, rfl, rfl, fun _ _ => rfl, fun _ _ => rfl, Or.inl rfl⟩
    | 3, _ =>
      refine zv_step (bX6_keep 44) rfl rfl (by decide) ?_
      iterate 1 (refine zv_step (bX6_keep 44) rfl rfl trivial ?_)
      refine zv_getf (bX6_keep 44) rfl (rfl) rfl ?_
      iterate 1 (refine zv_step (bX6_keep 44) rfl rfl trivial ?_)
      refine zv_aald (bX6_keep 44) rfl (Or.inl rfl) rfl (show vp_in (nI s) 8 from vp_in_nI (by omega) (by decide)) (show ([some 59, some 61, some 63, some 65, some 67, some 69, some 71, some 73] : List (Option Nat)).getD (nI s).toNatClampNeg none = some (59 + 2 * s) by rw [nI_clamp (by omega)]; exact dSs hs) ?_
      iterate 2 (refine zv_step (bX6_keep 44) rfl rfl trivial ?_)
      refine zv_getf (bX6_keep 44) rfl (rfl) rfl ?_
      refine zv_getf (bX6_keep 44) rfl (rfl) rfl ?_
      iterate 1 (refine zv_step (bX6_keep 44) rfl rfl trivial ?_)
      refine zv_getf (bX6_keep 44) rfl (rfl) rfl ?_
      refine zv_getf (bX6_keep 44) rfl (rfl) (congrArg (fun q => some (Value.int q)) hO) ?_
      refine zv_V3 (bX6_keep 44) rfl rfl rfl (wS O P Y g hs) rfl rfl rfl ⟨rfl, rfl, rfl⟩ ⟨by decide, by decide⟩ ⟨Nat.zero_le _, Nat.zero_le _⟩ (hHoldRow O P Y g hs _ hl) ?_
      rintro _ _ ⟨rfl, P1, rfl, hP1⟩
      iterate 1 (refine zv_step (bX6_keep 44) rfl rfl trivial ?_)
      exact zv_iret (bX6_keep 44) rfl (Or.inl rfl) (Nat.zero_le _) (Nat.zero_le _) ⟨_, P1, _, s, hs, rfl, rfl, fun j hj => by rw [upd_ne _ _ (by omega), upd_ne _ _ (by omega)], hP1, Or.inr ⟨l, by omega, by rw [upd_self]⟩⟩
    | 4, _ =>
      refine zv_step (bX6_keep 44) rfl rfl (by decide) ?_
      iterate 2 (refine zv_step (bX6_keep 44) rfl rfl trivial ?_)
      refine zv_getf (bX6_keep 44) rfl (rfl) rfl ?_
      iterate 1 (refine zv_step (bX6_keep 44) rfl rfl trivial ?_)
      refine zv_aald (bX6_keep 44) rfl (Or.inl rfl) rfl (show vp_in (nI s) 8 from vp_in_nI (by omega) (by decide)) (show ([some 59, some 61, some 63, some 65, some 67, some 69, some 71, some 73] : List (Option Nat)).getD (nI s).toNatClampNeg none = some (59 + 2 * s) by rw [nI_clamp (by omega)]; exact dSs hs) ?_
      iterate 2 (refine zv_step (bX6_keep 44) rfl rfl trivial ?_)
      refine zv_V3 (bX6_keep 44) rfl rfl rfl rfl rfl rfl rfl ⟨rfl, rfl, rfl⟩ ⟨by decide, by decide⟩ ⟨Nat.zero_le _, Nat.zero_le _⟩ (cKeepNode O P Y g hu0 h1 hp hs _ _) ?_
      rintro _ _ ⟨O1, P1, R1, rfl, rfl, hW⟩
      exact zv_iret (bX6_keep 44) rfl (Or.inl rfl) (Nat.zero_le _) (Nat.zero_le _) ⟨O1, P1, R1, s, hs, rfl, rfl, hW⟩
    | c + 5, h => exact absurd h (by omega)
set_option maxHeartbeats 1000000 in
set_option maxRecDepth 20000 in
theorem cKeep (O : Nat → Int32) (P : Nat → Nat → Int32) (Y : Nat → Nat → Int64) (g : Nat → zC) {u : Nat} (hu0 : u ≤ 120) (h1 : O 1 = nI u) (hp : pgI u (P 2) (P 4) (P 5) (P 6)) {l : Nat} (hl : l ≤ 20) (hO : O 9 = nI l) (y x n : Int32) : zK 44 zX6_keep [.ref 0, .int y, .int x, .int n] (wX O P Y g) (fun r w' => ∃ (O' : Nat → Int32) (P' : Nat → Nat → Int32) (R : Int32) (s : Nat), s < 8 ∧ r = some (.int R) ∧ w' = wX O' P' Y g ∧ shW O P s O' P') := by
  refine zK_of qX6_keep (by decide +kernel) rfl ?_
  iterate 1 (refine zv_step (bX6_keep 44) rfl rfl trivial ?_)
  refine zv_S1 (bX6_keep 44) rfl rfl rfl rfl ⟨rfl, rfl, rfl⟩ ⟨by decide, by decide⟩ ⟨Nat.zero_le _, Nat.zero_le _⟩ (hX6_isShelf _ _) ?_
  rintro _ _ ⟨rfl, ⟨hx, rfl⟩ | ⟨hx, rfl⟩⟩
  · iterate 1 (refine zv_step (bX6_keep 44) rfl rfl trivial ?_)
    refine zv_ift (by decide) ?_
    obtain ⟨s, hs, rfl⟩ := sh_of hx
    exact cKeepT O P Y g hu0 h1 hp hl hO hs _ _
  · iterate 1 (refine zv_step (bX6_keep 44) rfl rfl trivial ?_)
    refine zv_iff (by decide) ?_
    iterate 1 (refine zv_step (bX6_keep 44) rfl rfl trivial ?_)
    exact zv_iret (bX6_keep 44) rfl (Or.inl rfl) (Nat.zero_le _) (Nat.zero_le _) ⟨O, P, _, 0, by decide, rfl, rfl, fun _ _ => rfl, fun _ _ => rfl, Or.inl rfl⟩
