theorem upd_same {f : Nat → Int32} {i : Nat} {x : Int32} (h : f i = x) : upd f i x = f := by
  funext j
  unfold upd
  split
  · rename_i e; subst e; exact h.symm
  · rfl
theorem upd_3 (O : Nat → Int32) (a b c : Int32) {j : Nat} (h1 : j ≠ 10) (h2 : j ≠ 11) (h3 : j ≠ 12) : upd (upd (upd O 10 a) 11 b) 12 c j = O j := by
  rw [upd_ne _ _ h3, upd_ne _ _ h2, upd_ne _ _ h1]
set_option maxHeartbeats 1000000 in
set_option maxRecDepth 20000 in
theorem cTallyIn (O : Nat → Int32) (P : Nat → Nat → Int32) (Y : Nat → Nat → Int64) (g : Nat → zC) {l : Nat} (hl : l ≤ 20) (hO : O 9 = nI l) {x : Int32} (hx : 0 ≤ x.toInt ∧ x.toInt ≤ 8) : zK 5 zX6_tallyIn [.ref 0, .int x] (wX O P Y g) (fun r w' => ∃ (a b : Int32) (Y' : Nat → Nat → Int64) (v : Int64), r = some (.long v) ∧ w' = wX (upd (upd (upd O 10 a) 11 b) 12 (O 0)) P Y' g ∧ (wyI Y → wyI Y')) := by
  refine zK_of qX6_tallyIn (by decide +kernel) rfl ?_
  iterate 3 (refine zv_step (bX6_tallyIn 5) rfl rfl trivial ?_)
  refine zv_ifb (fun h1 => ?_) (fun h1 => ?_)
  · have h2 : ¬ x.toInt = 8 := fun e => h1 (Int32.toInt_inj.mp (e.trans (i8c 8 (by decide)).symm))
    iterate 3 (refine zv_step (bX6_tallyIn 5) rfl rfl trivial ?_)
    refine zv_step (bX6_tallyIn 5) rfl rfl (vp_in_iff.mpr ⟨hx.1, by omega⟩) ?_
    iterate 4 (refine zv_step (bX6_tallyIn 5) rfl rfl trivial ?_)
    refine zv_ift (h1) ?_
    iterate 12 (refine zv_step (bX6_tallyIn 5) rfl rfl trivial ?_)
    refine zv_V3 (bX6_tallyIn 5) rfl rfl rfl rfl rfl rfl rfl ⟨rfl, rfl, rfl⟩ ⟨by decide, by decide⟩ ⟨Nat.zero_le _, Nat.zero_le _⟩ (hTally O P Y g hl hO _ _ _) ?_
    rintro _ _ ⟨Y1, v, rfl, rfl, hw⟩
    iterate 1 (refine zv_step (bX6_tallyIn 5) rfl rfl trivial ?_)
    refine zv_minJ (bX6_tallyIn 5) rfl zMinL rfl ⟨by decide, by decide⟩ ⟨Nat.zero_le _, Nat.zero_le _⟩ ?_
    exact zv_lret (bX6_tallyIn 5) rfl rfl (Nat.zero_le _) (Nat.zero_le _) ⟨_, _, Y1, _, rfl, rfl, hw⟩
  · iterate 6 (refine zv_step (bX6_tallyIn 5) rfl rfl trivial ?_)
    refine zv_iff (h1) ?_
    iterate 9 (refine zv_step (bX6_tallyIn 5) rfl rfl trivial ?_)
    refine zv_V3 (bX6_tallyIn 5) rfl rfl rfl rfl rfl rfl rfl ⟨rfl, rfl, rfl⟩ ⟨by decide, by decide⟩ ⟨Nat.zero_le _, Nat.zero_le _⟩ (hTally O P Y g hl hO _ _ _) ?_
    rintro _ _ ⟨Y1, v, rfl, rfl, hw⟩
    iterate 1 (refine zv_step (bX6_tallyIn 5) rfl rfl trivial ?_)
    refine zv_minJ (bX6_tallyIn 5) rfl zMinL rfl ⟨by decide, by decide⟩ ⟨Nat.zero_le _, Nat.zero_le _⟩ ?_
    exact zv_lret (bX6_tallyIn 5) rfl rfl (Nat.zero_le _) (Nat.zero_le _) ⟨_, _, Y1, _, rfl, rfl, hw⟩
set_option maxHeartbeats 1000000 in
set_option maxRecDepth 20000 in
theorem cPlace (O : Nat → Int32) (P : Nat → Nat → Int32) (Y : Nat → Nat → Int64) (g : Nat → zC) (hu : (O 1).toInt ≤ 120) {l : Nat} (hl : l ≤ 20) (hO : O 9 = nI l) (x n : Int32) : zK 66 zX6_place [.ref 0, .int x, .int n] (wX O P Y g) (fun r w' => ∃ (O' : Nat → Int32) (Y' : Nat → Nat → Int64) (v : Int64), r = some (.long v) ∧ w' = wX O' P Y' g ∧ (wyI Y → wyI Y') ∧ ∀ j, j ≠ 10 → j ≠ 11 → j ≠ 12 → O' j = O j) := by
  refine zK_of qX6_place (by decide +kernel) rfl ?_
  iterate 1 (refine zv_step (bX6_place 66) rfl rfl trivial ?_)
  refine zv_S1 (bX6_place 66) rfl rfl rfl rfl ⟨rfl, rfl, rfl⟩ ⟨by decide, by decide⟩ ⟨Nat.zero_le _, Nat.zero_le _⟩ (hX6_isStyleOrFree _ _) ?_
  rintro _ _ ⟨rfl, ⟨hx, rfl⟩ | ⟨hx, rfl⟩⟩
  · iterate 1 (refine zv_step (bX6_place 66) rfl rfl trivial ?_)
    refine zv_iff (by decide) ?_
    iterate 3 (refine zv_step (bX6_place 66) rfl rfl trivial ?_)
    refine zv_V1 (bX6_place 66) rfl rfl rfl rfl rfl rfl rfl ⟨rfl, rfl, rfl⟩ ⟨by decide, by decide⟩ ⟨Nat.zero_le _, Nat.zero_le _⟩ (pHas1 O P Y g _) ?_
    rintro _ _ ⟨rfl, ⟨hh, rfl⟩ | ⟨hh, rfl⟩⟩
    · iterate 1 (refine zv_step (bX6_place 66) rfl rfl trivial ?_)
      refine zv_ift (by decide) ?_
      iterate 5 (refine zv_step (bX6_place 66) rfl rfl trivial ?_)
      refine zv_V2 (bX6_place 66) rfl rfl rfl rfl rfl rfl rfl ⟨rfl, rfl, rfl⟩ ⟨by decide, by decide⟩ ⟨Nat.zero_le _, Nat.zero_le _⟩ (pRight1 O P Y g _ (vp_in_iff.mpr ⟨hh.1, Int.lt_of_lt_of_le hh.2 hu⟩)) ?_
      rintro _ _ ⟨rfl, ⟨hr, rfl⟩ | ⟨hr, rfl⟩⟩
      · iterate 1 (refine zv_step (bX6_place 66) rfl rfl trivial ?_)
        refine zv_ift (by decide) ?_
        iterate 2 (refine zv_step (bX6_place 66) rfl rfl trivial ?_)
        refine zv_V1 (bX6_place 66) rfl rfl rfl rfl rfl rfl rfl ⟨rfl, rfl, rfl⟩ ⟨by decide, by decide⟩ ⟨Nat.zero_le _, Nat.zero_le _⟩ (cTallyIn O P Y g hl hO hx) ?_
        rintro _ _ ⟨a, b, Y1, v, rfl, rfl, hw⟩
        iterate 6 (refine zv_step (bX6_place 66) rfl rfl trivial ?_)
        refine zv_V2 (bX6_place 66) rfl rfl rfl rfl rfl rfl rfl ⟨rfl, rfl, rfl⟩ ⟨by decide, by decide⟩ ⟨Nat.zero_le _, Nat.zero_le _⟩ (hPlace (upd (upd (upd O 10 a) 11 b) 12 (O 0)) P Y1 g hu hl hO _) ?_
        rintro _ _ ⟨rfl, v2, rfl⟩
        iterate 5 (refine zv_step (bX6_place 66) rfl rfl trivial ?_)
        refine zv_ifb (fun h5 => ?_) (fun h5 => ?_)
        · iterate 1 (refine zv_step (bX6_place 66) rfl rfl trivial ?_)
          exact zv_lret (bX6_place 66) rfl rfl (Nat.zero_le _) (Nat.zero_le _) ⟨_, Y1, _, rfl, rfl, hw, fun j a1 a2 a3 => upd_3 O a b (O 0) a1 a2 a3⟩
        · iterate 2 (refine zv_step (bX6_place 66) rfl rfl trivial ?_)
          exact zv_lret (bX6_place 66) rfl rfl (Nat.zero_le _) (Nat.zero_le _) ⟨_, Y1, _, rfl, rfl, hw, fun j a1 a2 a3 => upd_3 O a b (O 0) a1 a2 a3⟩
      · iterate 1 (refine zv_step (bX6_place 66) rfl rfl trivial ?_)
        refine zv_iff (by decide) ?_
        iterate 1 (refine zv_step (bX6_place 66) rfl rfl trivial ?_)
        exact zv_lret (bX6_place 66) rfl rfl (Nat.zero_le _) (Nat.zero_le _) ⟨O, Y, _, rfl, rfl, id, fun _ _ _ _ => rfl⟩
    · iterate 1 (refine zv_step (bX6_place 66) rfl rfl trivial ?_)
      refine zv_iff (by decide) ?_
      iterate 1 (refine zv_step (bX6_place 66) rfl rfl trivial ?_)
      exact zv_lret (bX6_place 66) rfl rfl (Nat.zero_le _) (Nat.zero_le _) ⟨O, Y, _, rfl, rfl, id, fun _ _ _ _ => rfl⟩
  · iterate 1 (refine zv_step (bX6_place 66) rfl rfl trivial ?_)
    refine zv_ift (by decide) ?_
    iterate 1 (refine zv_step (bX6_place 66) rfl rfl trivial ?_)
    exact zv_lret (bX6_place 66) rfl rfl (Nat.zero_le _) (Nat.zero_le _) ⟨O, Y, _, rfl, rfl, id, fun _ _ _ _ => rfl⟩
