set_option maxHeartbeats 4000000 in
set_option maxRecDepth 20000 in
theorem lop_means {b : Nat} {xs : Nat → Int32} {kc ks : Nat} (hk : kc ≤ room_1.cells ∧ ks ≤ room_1.slots) : zV (zLw b 6 xs) true 0 kc ks 295 zl0 [] w0 (fun r _ => r = some (.int 1)) := by
  iterate 12 (first | refine zv_step (bLw b 6 xs) rfl rfl trivial ?_ | refine zv_sld rfl (by unfold vp_in; decide) ?_)
  refine zv_ifb (fun hz => ?_) (fun hz => ?_)
  · iterate 1 (first | refine zv_step (bLw b 6 xs) rfl rfl trivial ?_ | refine zv_sld rfl (by unfold vp_in; decide) ?_)
    refine zv_V2 (bLw b 6 xs) rfl rfl rfl rfl rfl rfl rfl ⟨rfl, rfl, rfl⟩ ⟨Nat.le_of_ble_eq_true rfl, Nat.le_of_ble_eq_true rfl⟩ hk (cX_means _ _ (Or.inl rfl)) ?_
    rintro _ w ⟨⟨a1, rfl, h1⟩, hw⟩
    iterate 12 (first | refine zv_step (bLw b 6 xs) rfl rfl trivial ?_ | refine zv_sld rfl (by unfold vp_in; decide) ?_)
    refine zv_ift hz ?_
    iterate 1 (first | refine zv_step (bLw b 6 xs) rfl rfl trivial ?_ | refine zv_sld rfl (by unfold vp_in; decide) ?_)
    refine zv_V2 (bLw b 6 xs) rfl rfl rfl ((hw 76 (by decide)).trans rfl) rfl rfl rfl ⟨rfl, rfl, rfl⟩ ⟨Nat.le_of_ble_eq_true rfl, Nat.le_of_ble_eq_true rfl⟩ hk (cM_means _ _ (Or.inl rfl) hw) ?_
    rintro _ w' ⟨a2, rfl, h2⟩
    have ha := F_means h1 h2
    subst ha
    refine zv_step (bLw b 6 xs) rfl rfl trivial ?_
    refine zv_ift rfl ?_
    exact law_tail hk w'
  · iterate 2 (first | refine zv_step (bLw b 6 xs) rfl rfl trivial ?_ | refine zv_sld rfl (by unfold vp_in; decide) ?_)
    refine zv_V2 (bLw b 6 xs) rfl rfl rfl rfl rfl rfl rfl ⟨rfl, rfl, rfl⟩ ⟨Nat.le_of_ble_eq_true rfl, Nat.le_of_ble_eq_true rfl⟩ hk (cX_means _ _ (Or.inr rfl)) ?_
    rintro _ w ⟨⟨a1, rfl, h1⟩, hw⟩
    iterate 12 (first | refine zv_step (bLw b 6 xs) rfl rfl trivial ?_ | refine zv_sld rfl (by unfold vp_in; decide) ?_)
    refine zv_iff hz ?_
    iterate 2 (first | refine zv_step (bLw b 6 xs) rfl rfl trivial ?_ | refine zv_sld rfl (by unfold vp_in; decide) ?_)
    refine zv_V2 (bLw b 6 xs) rfl rfl rfl ((hw 76 (by decide)).trans rfl) rfl rfl rfl ⟨rfl, rfl, rfl⟩ ⟨Nat.le_of_ble_eq_true rfl, Nat.le_of_ble_eq_true rfl⟩ hk (cM_means _ _ (Or.inr rfl) hw) ?_
    rintro _ w' ⟨a2, rfl, h2⟩
    have ha := F_means h1 h2
    subst ha
    refine zv_step (bLw b 6 xs) rfl rfl trivial ?_
    refine zv_ift rfl ?_
    exact law_tail hk w'
