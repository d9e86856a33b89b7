set_option maxHeartbeats 4000000 in
set_option maxRecDepth 100000 in
theorem lop_readings {b : Nat} {xs : Nat → Int32} {kc ks : Nat} (hk : kc + 1 ≤ room_1.cells ∧ ks + 6 ≤ room_1.slots) : zV (zLw b 6 xs) true 0 kc ks 808 zl0 [] w0 (fun r _ => r = some (.int 1)) := by
  iterate 7 (first | refine zv_step (bLw b 6 xs) rfl rfl trivial ?_ | refine zv_sld rfl (by unfold vp_in; decide) ?_)
  refine zv_help (nP := 3) rfl vL_readings ⟨by decide +kernel, by decide +kernel, by decide +kernel⟩ (As := [.ref 0, .int _, .ref 99]) (rest := []) rfl rfl (by decide) ⟨Nat.le_of_ble_eq_true rfl, Nat.le_of_ble_eq_true rfl⟩ hk (hL_readings _) ?_
  rintro _ w ⟨⟨hs, rfl⟩ | ⟨hs, rfl⟩, hw⟩
  · iterate 7 (first | refine zv_step (bLw b 6 xs) rfl rfl trivial ?_ | refine zv_sld rfl (by unfold vp_in; decide) ?_)
    refine zv_V1 (bLw b 6 xs) rfl rfl rfl ((hw 76 (by decide)).trans rfl) rfl rfl rfl ⟨rfl, rfl, rfl⟩ ⟨Nat.le_of_ble_eq_true rfl, Nat.le_of_ble_eq_true rfl⟩ hk (cM_readings _ hw) ?_
    rintro _ w' ⟨rfl, ⟨hs', ht⟩ | ⟨hs', ht⟩, h99⟩
    · iterate 2 (first | refine zv_step (bLw b 6 xs) rfl rfl trivial ?_ | refine zv_sld rfl (by unfold vp_in; decide) ?_)
      refine zv_V0 (bLw b 6 xs) rfl rfl rfl ht.choose_spec.1 rfl rfl rfl ⟨rfl, rfl, rfl⟩ ⟨Nat.le_of_ble_eq_true rfl, Nat.le_of_ble_eq_true rfl⟩ hk (cM_thrown ht) ?_
      rintro _ _ ⟨rfl, rfl⟩
      iterate 2 (first | refine zv_step (bLw b 6 xs) rfl rfl trivial ?_ | refine zv_sld rfl (by unfold vp_in; decide) ?_)
      refine zv_ift rfl ?_
      iterate 2 (first | refine zv_step (bLw b 6 xs) rfl rfl trivial ?_ | refine zv_sld rfl (by unfold vp_in; decide) ?_)
      refine zv_iff (by decide) ?_
      iterate 2 (first | refine zv_step (bLw b 6 xs) rfl rfl trivial ?_ | refine zv_sld rfl (by unfold vp_in; decide) ?_)
      refine zv_laldh (bLw b 6 xs) rfl (h99.trans rfl) (by unfold vp_in; decide) ?_
      iterate 3 (first | refine zv_step (bLw b 6 xs) rfl rfl trivial ?_ | refine zv_sld rfl (by unfold vp_in; decide) ?_)
      refine zv_ift (by decide) ?_
      iterate 1 (first | refine zv_step (bLw b 6 xs) rfl rfl trivial ?_ | refine zv_sld rfl (by unfold vp_in; decide) ?_)
      exact zv_locals (l' := zl0) (by simp [zset1, zset2, Value.category]) (law_tail hk _)
    · exact absurd hs hs'
  · iterate 7 (first | refine zv_step (bLw b 6 xs) rfl rfl trivial ?_ | refine zv_sld rfl (by unfold vp_in; decide) ?_)
    refine zv_V1 (bLw b 6 xs) rfl rfl rfl ((hw 76 (by decide)).trans rfl) rfl rfl rfl ⟨rfl, rfl, rfl⟩ ⟨Nat.le_of_ble_eq_true rfl, Nat.le_of_ble_eq_true rfl⟩ hk (cM_readings _ hw) ?_
    rintro _ w' ⟨rfl, ⟨hs', ht⟩ | ⟨hs', ht⟩, h99⟩
    · exact absurd hs' hs
    · iterate 2 (first | refine zv_step (bLw b 6 xs) rfl rfl trivial ?_ | refine zv_sld rfl (by unfold vp_in; decide) ?_)
      refine zv_V0 (bLw b 6 xs) rfl rfl rfl ht.choose_spec.1 rfl rfl rfl ⟨rfl, rfl, rfl⟩ ⟨Nat.le_of_ble_eq_true rfl, Nat.le_of_ble_eq_true rfl⟩ hk (cM_thrown ht) ?_
      rintro _ _ ⟨rfl, rfl⟩
      iterate 2 (first | refine zv_step (bLw b 6 xs) rfl rfl trivial ?_ | refine zv_sld rfl (by unfold vp_in; decide) ?_)
      refine zv_ift rfl ?_
      iterate 2 (first | refine zv_step (bLw b 6 xs) rfl rfl trivial ?_ | refine zv_sld rfl (by unfold vp_in; decide) ?_)
      refine zv_ift (by decide) ?_
      iterate 1 (first | refine zv_step (bLw b 6 xs) rfl rfl trivial ?_ | refine zv_sld rfl (by unfold vp_in; decide) ?_)
      exact zv_locals (l' := zl0) (by simp [zset1, zset2, Value.category]) (law_tail hk _)
set_option maxHeartbeats 4000000 in
set_option maxRecDepth 100000 in
theorem lop_where {b : Nat} {xs : Nat → Int32} {kc ks : Nat} (hk : kc + 1 ≤ room_1.cells ∧ ks + 6 ≤ room_1.slots) : zV (zLw b 6 xs) true 0 kc ks 1158 zl0 [] w0 (fun r _ => r = some (.int 1)) := by
  iterate 7 (first | refine zv_step (bLw b 6 xs) rfl rfl trivial ?_ | refine zv_sld rfl (by unfold vp_in; decide) ?_)
  refine zv_help (nP := 3) rfl vL_where ⟨by decide +kernel, by decide +kernel, by decide +kernel⟩ (As := [.ref 0, .int _, .ref 99]) (rest := []) rfl rfl (by decide) ⟨Nat.le_of_ble_eq_true rfl, Nat.le_of_ble_eq_true rfl⟩ hk (hL_where _) ?_
  rintro _ _ ⟨rfl, a1, h1, rfl⟩
  iterate 7 (first | refine zv_step (bLw b 6 xs) rfl rfl trivial ?_ | refine zv_sld rfl (by unfold vp_in; decide) ?_)
  refine zv_V1 (bLw b 6 xs) rfl rfl rfl rfl rfl rfl rfl ⟨rfl, rfl, rfl⟩ ⟨Nat.le_of_ble_eq_true rfl, Nat.le_of_ble_eq_true rfl⟩ hk (cM_where _ (fun i => (w0[i]?).getD (zI 0 0 (fun _ => 0))) _) ?_
  rintro _ w' ⟨⟨a2, rfl, h2⟩, ht, h99⟩
  have ha := F_where h1 h2
  subst ha
  iterate 2 (first | refine zv_step (bLw b 6 xs) rfl rfl trivial ?_ | refine zv_sld rfl (by unfold vp_in; decide) ?_)
  refine zv_V0 (bLw b 6 xs) rfl rfl rfl ht.choose_spec.1 rfl rfl rfl ⟨rfl, rfl, rfl⟩ ⟨Nat.le_of_ble_eq_true rfl, Nat.le_of_ble_eq_true rfl⟩ hk (cM_thrown ht) ?_
  rintro _ _ ⟨rfl, rfl⟩
  iterate 2 (first | refine zv_step (bLw b 6 xs) rfl rfl trivial ?_ | refine zv_sld rfl (by unfold vp_in; decide) ?_)
  refine zv_ift rfl ?_
  iterate 2 (first | refine zv_step (bLw b 6 xs) rfl rfl trivial ?_ | refine zv_sld rfl (by unfold vp_in; decide) ?_)
  refine zv_iff (by decide) ?_
  iterate 2 (first | refine zv_step (bLw b 6 xs) rfl rfl trivial ?_ | refine zv_sld rfl (by unfold vp_in; decide) ?_)
  refine zv_laldh (bLw b 6 xs) rfl h99 (by unfold vp_in; decide) ?_
  iterate 3 (first | refine zv_step (bLw b 6 xs) rfl rfl trivial ?_ | refine zv_sld rfl (by unfold vp_in; decide) ?_)
  refine zv_step (bLw b 6 xs) rfl rfl trivial ?_
  refine zv_ift (by show lg_cmp a1.toInt64 a1.toInt64 = 0; rw [lg_cmp_eq]) ?_
  iterate 1 (first | refine zv_step (bLw b 6 xs) rfl rfl trivial ?_ | refine zv_sld rfl (by unfold vp_in; decide) ?_)
  exact zv_locals (l' := zl0) (by simp [zset1, zset2, Value.category]) (law_tail hk _)
set_option maxHeartbeats 4000000 in
set_option maxRecDepth 100000 in
theorem lop_element {b : Nat} {xs : Nat → Int32} {kc ks : Nat} (hk : kc + 1 ≤ room_1.cells ∧ ks + 6 ≤ room_1.slots) : zV (zLw b 6 xs) true 0 kc ks 1473 zl0 [] w0 (fun r _ => r = some (.int 1)) := by
  iterate 12 (first | refine zv_step (bLw b 6 xs) rfl rfl trivial ?_ | refine zv_sld rfl (by unfold vp_in; decide) ?_)
  refine zv_help (nP := 4) rfl vL_element ⟨by decide +kernel, by decide +kernel, by decide +kernel⟩ (As := [.ref 0, .int _, .int _, .ref 99]) (rest := []) rfl rfl (by decide) ⟨Nat.le_of_ble_eq_true rfl, Nat.le_of_ble_eq_true rfl⟩ hk (hL_element _ _) ?_
  rintro _ _ ⟨⟨hs, rfl⟩ | ⟨hs, rfl⟩, rfl⟩
  · iterate 12 (first | refine zv_step (bLw b 6 xs) rfl rfl trivial ?_ | refine zv_sld rfl (by unfold vp_in; decide) ?_)
    refine zv_V2 (bLw b 6 xs) rfl rfl rfl rfl rfl rfl rfl ⟨rfl, rfl, rfl⟩ ⟨Nat.le_of_ble_eq_true rfl, Nat.le_of_ble_eq_true rfl⟩ hk (cM_element _ _ (fun i => (w0[i]?).getD (zI 0 0 (fun _ => 0)))) ?_
    rintro _ w' ⟨rfl, ⟨hs', ht⟩ | ⟨hs', ht⟩⟩
    · iterate 2 (first | refine zv_step (bLw b 6 xs) rfl rfl trivial ?_ | refine zv_sld rfl (by unfold vp_in; decide) ?_)
      refine zv_V0 (bLw b 6 xs) rfl rfl rfl ht.choose_spec.1 rfl rfl rfl ⟨rfl, rfl, rfl⟩ ⟨Nat.le_of_ble_eq_true rfl, Nat.le_of_ble_eq_true rfl⟩ hk (cM_thrown ht) ?_
      rintro _ _ ⟨rfl, rfl⟩
      iterate 2 (first | refine zv_step (bLw b 6 xs) rfl rfl trivial ?_ | refine zv_sld rfl (by unfold vp_in; decide) ?_)
      refine zv_ift rfl ?_
      iterate 2 (first | refine zv_step (bLw b 6 xs) rfl rfl trivial ?_ | refine zv_sld rfl (by unfold vp_in; decide) ?_)
      refine zv_ift (by decide) ?_
      iterate 1 (first | refine zv_step (bLw b 6 xs) rfl rfl trivial ?_ | refine zv_sld rfl (by unfold vp_in; decide) ?_)
      exact zv_locals (l' := zl0) (by simp [zset1, zset2, Value.category]) (law_tail hk _)
    · exact absurd hs hs'
  · iterate 12 (first | refine zv_step (bLw b 6 xs) rfl rfl trivial ?_ | refine zv_sld rfl (by unfold vp_in; decide) ?_)
    refine zv_V2 (bLw b 6 xs) rfl rfl rfl rfl rfl rfl rfl ⟨rfl, rfl, rfl⟩ ⟨Nat.le_of_ble_eq_true rfl, Nat.le_of_ble_eq_true rfl⟩ hk (cM_element _ _ (fun i => (w0[i]?).getD (zI 0 0 (fun _ => 0)))) ?_
    rintro _ w' ⟨rfl, ⟨hs', ht⟩ | ⟨hs', ht⟩⟩
    · exact absurd hs' hs
    · iterate 2 (first | refine zv_step (bLw b 6 xs) rfl rfl trivial ?_ | refine zv_sld rfl (by unfold vp_in; decide) ?_)
      refine zv_V0 (bLw b 6 xs) rfl rfl rfl ht.choose_spec.1 rfl rfl rfl ⟨rfl, rfl, rfl⟩ ⟨Nat.le_of_ble_eq_true rfl, Nat.le_of_ble_eq_true rfl⟩ hk (cM_thrown ht) ?_
      rintro _ _ ⟨rfl, rfl⟩
      iterate 2 (first | refine zv_step (bLw b 6 xs) rfl rfl trivial ?_ | refine zv_sld rfl (by unfold vp_in; decide) ?_)
      refine zv_ift rfl ?_
      iterate 2 (first | refine zv_step (bLw b 6 xs) rfl rfl trivial ?_ | refine zv_sld rfl (by unfold vp_in; decide) ?_)
      refine zv_ift (by decide) ?_
      iterate 1 (first | refine zv_step (bLw b 6 xs) rfl rfl trivial ?_ | refine zv_sld rfl (by unfold vp_in; decide) ?_)
      exact zv_locals (l' := zl0) (by simp [zset1, zset2, Value.category]) (law_tail hk _)
