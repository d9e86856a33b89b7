set_option maxHeartbeats 4000000 in
set_option maxRecDepth 20000 in
theorem lop_copy {b : Nat} {xs : Nat → Int32} {kc ks : Nat} (hk : kc ≤ room_1.cells ∧ ks ≤ room_1.slots) : zV (zLw b 6 xs) true 0 kc ks 1540 zl0 [] w0 (fun r _ => r = some (.int 1)) := by
  repeat' (first
    | refine zv_step (bLw b 6 xs) rfl rfl trivial ?_
    | refine zv_sld rfl (by unfold vp_in; decide) ?_)
  refine zv_V5 (bLw b 6 xs) rfl rfl rfl rfl rfl rfl rfl ⟨rfl, rfl, rfl⟩ ⟨Nat.le_of_ble_eq_true rfl, Nat.le_of_ble_eq_true rfl⟩ hk (cX_copy _ _ _ _ _) ?_
  rintro _ w ⟨⟨a1, rfl, h1⟩, hw⟩
  repeat' (first
    | refine zv_step (bLw b 6 xs) rfl rfl trivial ?_
    | refine zv_sld rfl (by unfold vp_in; decide) ?_)
  refine zv_V5 (bLw b 6 xs) rfl rfl rfl ((hw 76 (by decide)).trans rfl) rfl rfl rfl ⟨rfl, rfl, rfl⟩ ⟨Nat.le_of_ble_eq_true rfl, Nat.le_of_ble_eq_true rfl⟩ hk (cM_copy _ _ _ _ _ hw) ?_
  rintro _ w' ⟨a2, rfl, h2⟩
  have ha := F_copy h1 h2
  subst ha
  refine zv_step (bLw b 6 xs) rfl rfl trivial ?_
  dsimp only
  rw [if_pos rfl]
  exact law_tail hk w'

set_option maxHeartbeats 4000000 in
set_option maxRecDepth 20000 in
theorem lop_weight {b : Nat} {xs : Nat → Int32} {kc ks : Nat} (hk : kc ≤ room_1.cells ∧ ks ≤ room_1.slots) : zV (zLw b 6 xs) true 0 kc ks 1613 zl0 [] w0 (fun r _ => r = some (.int 1)) := by
  repeat' (first
    | refine zv_step (bLw b 6 xs) rfl rfl trivial ?_
    | refine zv_sld rfl (by unfold vp_in; decide) ?_)
  refine zv_V1 (bLw b 6 xs) rfl rfl rfl rfl rfl rfl rfl ⟨rfl, rfl, rfl⟩ ⟨Nat.le_of_ble_eq_true rfl, Nat.le_of_ble_eq_true rfl⟩ hk (cX_weight _) ?_
  rintro _ w ⟨⟨a1, rfl, h1⟩, hw⟩
  repeat' (first
    | refine zv_step (bLw b 6 xs) rfl rfl trivial ?_
    | refine zv_sld rfl (by unfold vp_in; decide) ?_)
  refine zv_V1 (bLw b 6 xs) rfl rfl rfl ((hw 76 (by decide)).trans rfl) rfl rfl rfl ⟨rfl, rfl, rfl⟩ ⟨Nat.le_of_ble_eq_true rfl, Nat.le_of_ble_eq_true rfl⟩ hk (cM_weight _ hw) ?_
  rintro _ w' ⟨a2, rfl, h2⟩
  have ha := F_weight h1 h2
  subst ha
  refine zv_step (bLw b 6 xs) rfl rfl trivial ?_
  dsimp only
  rw [if_pos rfl]
  exact law_tail hk w'

set_option maxHeartbeats 4000000 in
set_option maxRecDepth 20000 in
theorem lop_toss {b : Nat} {xs : Nat → Int32} {kc ks : Nat} (hk : kc ≤ room_1.cells ∧ ks ≤ room_1.slots) : zV (zLw b 6 xs) true 0 kc ks 1638 zl0 [] w0 (fun r _ => r = some (.int 1)) := by
  repeat' (first
    | refine zv_step (bLw b 6 xs) rfl rfl trivial ?_
    | refine zv_sld rfl (by unfold vp_in; decide) ?_)
  refine zv_V1 (bLw b 6 xs) rfl rfl rfl rfl rfl rfl rfl ⟨rfl, rfl, rfl⟩ ⟨Nat.le_of_ble_eq_true rfl, Nat.le_of_ble_eq_true rfl⟩ hk (cX_toss _) ?_
  rintro _ w ⟨⟨a1, rfl, h1⟩, hw⟩
  repeat' (first
    | refine zv_step (bLw b 6 xs) rfl rfl trivial ?_
    | refine zv_sld rfl (by unfold vp_in; decide) ?_)
  refine zv_V1 (bLw b 6 xs) rfl rfl rfl ((hw 76 (by decide)).trans rfl) rfl rfl rfl ⟨rfl, rfl, rfl⟩ ⟨Nat.le_of_ble_eq_true rfl, Nat.le_of_ble_eq_true rfl⟩ hk (cM_toss _ hw) ?_
  rintro _ w' ⟨a2, rfl, h2⟩
  have ha := F_toss h1 h2
  subst ha
  refine zv_step (bLw b 6 xs) rfl rfl trivial ?_
  dsimp only
  rw [if_pos rfl]
  exact law_tail hk w'

set_option maxHeartbeats 4000000 in
set_option maxRecDepth 20000 in
theorem lop_place {b : Nat} {xs : Nat → Int32} {kc ks : Nat} (hk : kc ≤ room_1.cells ∧ ks ≤ room_1.slots) : zV (zLw b 6 xs) true 0 kc ks 932 zl0 [] w0 (fun r _ => r = some (.int 1)) := by
  repeat' (first
    | refine zv_step (bLw b 6 xs) rfl rfl trivial ?_
    | refine zv_sld rfl (by unfold vp_in; decide) ?_)
  refine zv_V2 (bLw b 6 xs) rfl rfl rfl rfl rfl rfl rfl ⟨rfl, rfl, rfl⟩ ⟨Nat.le_of_ble_eq_true rfl, Nat.le_of_ble_eq_true rfl⟩ hk (cX_place _ _) ?_
  rintro _ w ⟨rfl, hw⟩
  repeat' (first
    | refine zv_step (bLw b 6 xs) rfl rfl trivial ?_
    | refine zv_sld rfl (by unfold vp_in; decide) ?_)
  refine zv_V2 (bLw b 6 xs) rfl rfl rfl ((hw 76 (by decide)).trans rfl) rfl rfl rfl ⟨rfl, rfl, rfl⟩ ⟨Nat.le_of_ble_eq_true rfl, Nat.le_of_ble_eq_true rfl⟩ hk (cM_place _ _ hw) ?_
  rintro _ w' rfl
  iterate 2 (refine zv_step (bLw b 6 xs) rfl rfl trivial ?_)
  refine zv_ift (by decide) ?_
  exact law_tail hk w'

