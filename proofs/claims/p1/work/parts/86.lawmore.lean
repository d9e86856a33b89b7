set_option maxHeartbeats 4000000 in
set_option maxRecDepth 20000 in
theorem lop_leaf {b : Nat} {xs : Nat → Int32} {kc ks : Nat} (hk : kc ≤ room_1.cells ∧ ks ≤ room_1.slots) : zV (zLw b 6 xs) true 0 kc ks 196 zl0 [] w0 (fun r _ => r = some (.int 1)) := by
  repeat' (first
    | refine zv_step (bLw b 6 xs) rfl rfl trivial ?_
    | refine zv_sld rfl (by unfold vp_in; decide) ?_)
  refine zv_V2 (bLw b 6 xs) rfl rfl rfl rfl rfl rfl rfl ⟨rfl, rfl, rfl⟩ ⟨Nat.le_of_ble_eq_true rfl, Nat.le_of_ble_eq_true rfl⟩ hk (cX_leaf _ _) ?_
  rintro _ w ⟨⟨a1, rfl, h1⟩, hw⟩
  repeat' (first
    | refine zv_step (bLw b 6 xs) rfl rfl trivial ?_
    | refine zv_sld rfl (by unfold vp_in; decide) ?_)
  refine zv_V2 (bLw b 6 xs) rfl rfl rfl ((hw 76 (by decide)).trans rfl) rfl rfl rfl ⟨rfl, rfl, rfl⟩ ⟨Nat.le_of_ble_eq_true rfl, Nat.le_of_ble_eq_true rfl⟩ hk (cM_leaf _ _ hw) ?_
  rintro _ w' ⟨a2, rfl, h2⟩
  have ha := F_leaf h1 h2
  subst ha
  refine zv_step (bLw b 6 xs) rfl rfl trivial ?_
  dsimp only
  rw [if_pos rfl]
  exact law_tail hk w'

set_option maxHeartbeats 4000000 in
set_option maxRecDepth 20000 in
theorem lop_hear {b : Nat} {xs : Nat → Int32} {kc ks : Nat} (hk : kc ≤ room_1.cells ∧ ks ≤ room_1.slots) : zV (zLw b 6 xs) true 0 kc ks 696 zl0 [] w0 (fun r _ => r = some (.int 1)) := by
  repeat' (first
    | refine zv_step (bLw b 6 xs) rfl rfl trivial ?_
    | refine zv_sld rfl (by unfold vp_in; decide) ?_)
  refine zv_V2 (bLw b 6 xs) rfl rfl rfl rfl rfl rfl rfl ⟨rfl, rfl, rfl⟩ ⟨Nat.le_of_ble_eq_true rfl, Nat.le_of_ble_eq_true rfl⟩ hk (cX_hear _ _) ?_
  rintro _ w ⟨⟨a1, rfl, h1⟩, hw⟩
  repeat' (first
    | refine zv_step (bLw b 6 xs) rfl rfl trivial ?_
    | refine zv_sld rfl (by unfold vp_in; decide) ?_)
  refine zv_V2 (bLw b 6 xs) rfl rfl rfl ((hw 76 (by decide)).trans rfl) rfl rfl rfl ⟨rfl, rfl, rfl⟩ ⟨Nat.le_of_ble_eq_true rfl, Nat.le_of_ble_eq_true rfl⟩ hk (cM_hear _ _ hw) ?_
  rintro _ w' ⟨a2, rfl, h2⟩
  have ha := F_hear h1 h2
  subst ha
  refine zv_step (bLw b 6 xs) rfl rfl trivial ?_
  dsimp only
  rw [if_pos rfl]
  exact law_tail hk w'

set_option maxHeartbeats 4000000 in
set_option maxRecDepth 20000 in
theorem lop_make {b : Nat} {xs : Nat → Int32} {kc ks : Nat} (hk : kc ≤ room_1.cells ∧ ks ≤ room_1.slots) : zV (zLw b 6 xs) true 0 kc ks 1424 zl0 [] w0 (fun r _ => r = some (.int 1)) := by
  repeat' (first
    | refine zv_step (bLw b 6 xs) rfl rfl trivial ?_
    | refine zv_sld rfl (by unfold vp_in; decide) ?_)
  refine zv_V3 (bLw b 6 xs) rfl rfl rfl rfl rfl rfl rfl ⟨rfl, rfl, rfl⟩ ⟨Nat.le_of_ble_eq_true rfl, Nat.le_of_ble_eq_true rfl⟩ hk (cX_make _ _ _) ?_
  rintro _ w ⟨⟨a1, rfl, h1⟩, hw⟩
  repeat' (first
    | refine zv_step (bLw b 6 xs) rfl rfl trivial ?_
    | refine zv_sld rfl (by unfold vp_in; decide) ?_)
  refine zv_V3 (bLw b 6 xs) rfl rfl rfl ((hw 76 (by decide)).trans rfl) rfl rfl rfl ⟨rfl, rfl, rfl⟩ ⟨Nat.le_of_ble_eq_true rfl, Nat.le_of_ble_eq_true rfl⟩ hk (cM_make _ _ _ hw) ?_
  rintro _ w' ⟨a2, rfl, h2⟩
  have ha := F_make h1 h2
  subst ha
  refine zv_step (bLw b 6 xs) rfl rfl trivial ?_
  dsimp only
  rw [if_pos rfl]
  exact law_tail hk w'

set_option maxHeartbeats 4000000 in
set_option maxRecDepth 20000 in
theorem lop_keeps {b : Nat} {xs : Nat → Int32} {kc ks : Nat} (hk : kc ≤ room_1.cells ∧ ks ≤ room_1.slots) : zV (zLw b 6 xs) true 0 kc ks 459 zl0 [] w0 (fun r _ => r = some (.int 1)) := by
  iterate 17 (first | refine zv_step (bLw b 6 xs) rfl rfl trivial ?_ | refine zv_sld rfl (by unfold vp_in; decide) ?_)
  refine zv_ifb (fun hz => ?_) (fun hz => ?_)
  · iterate 1 (first | refine zv_step (bLw b 6 xs) rfl rfl trivial ?_ | refine zv_sld rfl (by unfold vp_in; decide) ?_)
    refine zv_V3 (bLw b 6 xs) rfl rfl rfl rfl rfl rfl rfl ⟨rfl, rfl, rfl⟩ ⟨Nat.le_of_ble_eq_true rfl, Nat.le_of_ble_eq_true rfl⟩ hk (cX_keeps _ _ _ (Or.inl rfl)) ?_
    rintro _ w ⟨⟨a1, rfl, h1⟩, hw⟩
    iterate 17 (first | refine zv_step (bLw b 6 xs) rfl rfl trivial ?_ | refine zv_sld rfl (by unfold vp_in; decide) ?_)
    refine zv_ift hz ?_
    iterate 1 (first | refine zv_step (bLw b 6 xs) rfl rfl trivial ?_ | refine zv_sld rfl (by unfold vp_in; decide) ?_)
    refine zv_V3 (bLw b 6 xs) rfl rfl rfl ((hw 76 (by decide)).trans rfl) rfl rfl rfl ⟨rfl, rfl, rfl⟩ ⟨Nat.le_of_ble_eq_true rfl, Nat.le_of_ble_eq_true rfl⟩ hk (cM_keeps _ _ _ (Or.inl rfl) hw) ?_
    rintro _ w' ⟨a2, rfl, h2⟩
    have ha := F_keeps h1 h2
    subst ha
    refine zv_step (bLw b 6 xs) rfl rfl trivial ?_
    refine zv_ift rfl ?_
    exact law_tail hk w'
  · iterate 2 (first | refine zv_step (bLw b 6 xs) rfl rfl trivial ?_ | refine zv_sld rfl (by unfold vp_in; decide) ?_)
    refine zv_V3 (bLw b 6 xs) rfl rfl rfl rfl rfl rfl rfl ⟨rfl, rfl, rfl⟩ ⟨Nat.le_of_ble_eq_true rfl, Nat.le_of_ble_eq_true rfl⟩ hk (cX_keeps _ _ _ (Or.inr rfl)) ?_
    rintro _ w ⟨⟨a1, rfl, h1⟩, hw⟩
    iterate 17 (first | refine zv_step (bLw b 6 xs) rfl rfl trivial ?_ | refine zv_sld rfl (by unfold vp_in; decide) ?_)
    refine zv_iff hz ?_
    iterate 2 (first | refine zv_step (bLw b 6 xs) rfl rfl trivial ?_ | refine zv_sld rfl (by unfold vp_in; decide) ?_)
    refine zv_V3 (bLw b 6 xs) rfl rfl rfl ((hw 76 (by decide)).trans rfl) rfl rfl rfl ⟨rfl, rfl, rfl⟩ ⟨Nat.le_of_ble_eq_true rfl, Nat.le_of_ble_eq_true rfl⟩ hk (cM_keeps _ _ _ (Or.inr rfl) hw) ?_
    rintro _ w' ⟨a2, rfl, h2⟩
    have ha := F_keeps h1 h2
    subst ha
    refine zv_step (bLw b 6 xs) rfl rfl trivial ?_
    refine zv_ift rfl ?_
    exact law_tail hk w'

