set_option maxHeartbeats 4000000 in
set_option maxRecDepth 20000 in
theorem lop_keep {b : Nat} {xs : Nat → Int32} {kc ks : Nat} (hk : kc ≤ room_1.cells ∧ ks ≤ room_1.slots) : zV (zLw b 6 xs) true 0 kc ks 1375 zl0 [] w0 (fun r _ => r = some (.int 1)) := by
  repeat' (first
    | refine zv_step (bLw b 6 xs) rfl rfl trivial ?_
    | refine zv_sld rfl (by unfold vp_in; decide) ?_)
  refine zv_V3 (bLw b 6 xs) rfl rfl rfl rfl rfl rfl rfl ⟨rfl, rfl, rfl⟩ ⟨Nat.le_of_ble_eq_true rfl, Nat.le_of_ble_eq_true rfl⟩ hk (cX_keep _ _ _) ?_
  rintro _ w ⟨⟨a1, rfl, h1⟩, hw⟩
  repeat' (first
    | refine zv_step (bLw b 6 xs) rfl rfl trivial ?_
    | refine zv_sld rfl (by unfold vp_in; decide) ?_)
  refine zv_V3 (bLw b 6 xs) rfl rfl rfl ((hw 76 (by decide)).trans rfl) rfl rfl rfl ⟨rfl, rfl, rfl⟩ ⟨Nat.le_of_ble_eq_true rfl, Nat.le_of_ble_eq_true rfl⟩ hk (cM_keep _ _ _ hw) ?_
  rintro _ w' ⟨a2, rfl, h2⟩
  have ha := F_keep h1 h2
  subst ha
  refine zv_step (bLw b 6 xs) rfl rfl trivial ?_
  dsimp only
  rw [if_pos rfl]
  exact law_tail hk w'

