abbrev zlw (i : Nat) : zL := [(4, .int (nI i)), (3, .ref 99), (2, .ref 76), (1, .ref 0), (0, .ref zsent)]
theorem ix6 {i L k : Nat} (h : i + 6 ≤ L) (hL : L ≤ 3072) (hk : k < 6) : vp_in (nI i + nI k) L := by
  rw [nI_add]
  exact vp_in_nI (by omega) (by omega)
theorem cI_id {u l d : Nat} {O : Nat → Int32} {P : Nat → Nat → Int32} {Y : Nat → Nat → Int64} (h : cI u l d O P Y) : cInv O P Y ∧ cSt O P O P := ⟨⟨u, l, d, h⟩, cSt_refl O P⟩
theorem mI_id {u h d : Nat} {o : Nat → Int32} {A : Nat → Nat → Int32} (H : mI u h d o A) : mInv o A ∧ mSt A A := ⟨⟨u, h, d, H⟩, rfl, rfl⟩
theorem kp_iff {x y : Int32} : ((0 ≤ x.toInt ∧ x.toInt ≤ 7) ∧ (¬ y < 0 ∧ ¬ c8 9 < y) ∧ hbW (Int16.ofInt 764).toInt32 y = Int32.ofInt 1) ↔ ((0 ≤ x.toInt ∧ x.toInt ≤ 7) ∧ (2 ≤ y.toInt ∧ y.toInt ≤ 9 ∧ y.toInt ≠ 8)) := by
  constructor
  · rintro ⟨h1, h2, h3⟩
    obtain ⟨n, hn, rfl⟩ := k_of h2.1 h2.2
    have := (e764 n hn).mp h3
    rw [nI_toInt (by omega)]
    exact ⟨h1, by omega, by omega, by omega⟩
  · rintro ⟨h1, h2⟩
    obtain ⟨n, hn, rfl⟩ := in_nat (x := y) (b := 9) (by decide) ⟨by omega, by omega⟩
    rw [nI_toInt (by omega)] at h2
    exact ⟨h1, ⟨nI_pos (by omega), show ¬ nI 9 < nI n from nI_nlt (by omega) (by omega)⟩, (e764 n (by omega)).mpr (by omega)⟩
theorem keepsC {O : Nat → Int32} {P : Nat → Nat → Int32} {Y : Nat → Nat → Int64} {g : Nat → zC} {x y on : Int32} {r : Option Value} {w' : zW} (h : (((0 ≤ x.toInt ∧ x.toInt ≤ 7) ∧ (¬ y < 0 ∧ ¬ c8 9 < y) ∧ hbW (Int16.ofInt 764).toInt32 y = Int32.ofInt 1) ∧ w' = wX O (updA P 75 (upd (P 75) x.toNatClampNeg (wbW (P 75 x.toNatClampNeg) y on))) Y g ∧ ((wbW (P 75 x.toNatClampNeg) y on) = P 75 x.toNatClampNeg ∧ r = some (.int (Int32.ofInt 0)) ∨ ¬ (wbW (P 75 x.toNatClampNeg) y on) = P 75 x.toNatClampNeg ∧ r = some (.int (Int32.ofInt 1)))) ∨ (¬ ((0 ≤ x.toInt ∧ x.toInt ≤ 7) ∧ (¬ y < 0 ∧ ¬ c8 9 < y) ∧ hbW (Int16.ofInt 764).toInt32 y = Int32.ofInt 1) ∧ w' = wX O P Y g ∧ r = some (.int (Int32.ofInt (-1))))) : (∃ s k : Nat, s < 8 ∧ (2 ≤ k ∧ k ≤ 9) ∧ k ≠ 8 ∧ x = nI s ∧ y = nI k ∧ w' = wX O (updA P 75 (upd (P 75) s (wbW (P 75 s) (nI k) on))) Y g ∧ ((wbW (P 75 s) (nI k) on = P 75 s ∧ r = some (.int (Int32.ofInt 0))) ∨ (¬ wbW (P 75 s) (nI k) on = P 75 s ∧ r = some (.int (Int32.ofInt 1))))) ∨ (¬ ((0 ≤ x.toInt ∧ x.toInt ≤ 7) ∧ (2 ≤ y.toInt ∧ y.toInt ≤ 9 ∧ y.toInt ≠ 8)) ∧ w' = wX O P Y g ∧ r = some (.int (Int32.ofInt (-1)))) := by
  rw [kp_iff] at h
  rcases h with ⟨⟨h1, h2⟩, e, h3⟩ | h
  · obtain ⟨s, hs, rfl⟩ := in_nat (x := x) (b := 7) (by decide) h1
    obtain ⟨k, hk, rfl⟩ := in_nat (x := y) (b := 9) (by decide) ⟨by omega, by omega⟩
    rw [nI_toInt (by omega)] at h2
    rw [nI_clamp (by omega)] at e h3
    exact Or.inl ⟨s, k, by omega, by omega, by omega, rfl, rfl, e, h3⟩
  · exact Or.inr h
theorem meansC {O : Nat → Int32} {P : Nat → Nat → Int32} {Y : Nat → Nat → Int64} {g : Nat → zC} {x on : Int32} {r : Option Value} {w' : zW} (h : ((0 ≤ x.toInt ∧ x.toInt ≤ 9) ∧ w' = wX (upd O 0 (wbW (O 0) x on)) P Y g ∧ ((wbW (O 0) x on) = O 0 ∧ r = some (.int (Int32.ofInt 0)) ∨ ¬ (wbW (O 0) x on) = O 0 ∧ r = some (.int (Int32.ofInt 1)))) ∨ (¬ (0 ≤ x.toInt ∧ x.toInt ≤ 9) ∧ w' = wX O P Y g ∧ r = some (.int (Int32.ofInt (-1))))) : (∃ v : Nat, v ≤ 9 ∧ x = nI v ∧ w' = wX (upd O 0 (wbW (O 0) (nI v) on)) P Y g ∧ ((wbW (O 0) (nI v) on = O 0 ∧ r = some (.int (Int32.ofInt 0))) ∨ (¬ wbW (O 0) (nI v) on = O 0 ∧ r = some (.int (Int32.ofInt 1))))) ∨ (¬ (0 ≤ x.toInt ∧ x.toInt ≤ 9) ∧ w' = wX O P Y g ∧ r = some (.int (Int32.ofInt (-1)))) := by
  rcases h with ⟨h1, e, h3⟩ | h
  · obtain ⟨v, hv, rfl⟩ := in_nat (x := x) (b := 9) (by decide) h1
    exact Or.inl ⟨v, hv, rfl, e, h3⟩
  · exact Or.inr h
set_option maxHeartbeats 10000000 in
set_option maxRecDepth 100000 in
theorem lop_leaf {b L : Nat} {xs : Nat → Int32} {i kc ks : Nat} (hi : i + 6 ≤ L) (hL : L ≤ 3072) (hk : kc + 1 ≤ room_1.cells ∧ ks + 6 ≤ room_1.slots) {O : Nat → Int32} {P : Nat → Nat → Int32} {Y : Nat → Nat → Int64} {o : Nat → Int32} {A : Nat → Nat → Int32} {J : Nat → Nat → Int64} (hI : LI5 O P Y o A) {Q : Option Value → zW → Prop} (kk : ∀ (kc' ks' : Nat) (O : Nat → Int32) (P : Nat → Nat → Int32) (Y : Nat → Nat → Int64) (o : Nat → Int32) (A : Nat → Nat → Int32) (J : Nat → Nat → Int64), kc' ≤ kc + 1 → ks' ≤ ks + 6 → LI5 O P Y o A → zV (zLw b L xs) true 0 kc' ks' 1580 (zlw i) [] (wX O P Y (gR o A J)) Q) : zV (zLw b L xs) true 0 kc ks 196 (zlw i) [] (wX O P Y (gR o A J)) Q := by
  obtain ⟨u, l, d, d2, hC, hM, hkp, hfn, hSS⟩ := LI2_open hI.1
  have hk0 : kc ≤ room_1.cells ∧ ks ≤ room_1.slots := ⟨by omega, by omega⟩
  have hu1 : (O 1).toInt ≤ 120 := by rw [hC.2.1, nI_toInt (by have := hC.1; omega)]; have := hC.1; omega
  refine zv_world (show wX O P Y (gR o A J) = wX (upd O 1 (nI u)) P Y (gR o A J) by rw [upd_same hC.2.1]) ?_
  iterate 5 (refine zv_step (bLw b L xs) rfl rfl trivial ?_)
  refine zv_sld rfl (show vp_in (nI i + Int32.ofInt 1) L from ix6 hi hL (k := 1) (by decide)) ?_
  iterate 4 (refine zv_step (bLw b L xs) rfl rfl trivial ?_)
  refine zv_sld rfl (show vp_in (nI i + Int32.ofInt 2) L from ix6 hi hL (k := 2) (by decide)) ?_
  refine zv_V2 (bLw b L xs) rfl rfl rfl rfl rfl rfl rfl ⟨rfl, rfl, rfl⟩ ⟨Nat.le_of_ble_eq_true rfl, Nat.le_of_ble_eq_true rfl⟩ hk0 (cLeafX O P Y (gR o A J) hC.1 _ _) ?_
  rintro _ _ ⟨rfl, ⟨q1, rfl⟩ | ⟨q1, sh, rfl⟩⟩
  · refine zv_world (show wX (upd O 1 (nI u)) P Y (gR o A J) = wX O P Y (gR o A J) by rw [upd_same hC.2.1]) ?_
    refine zv_world (wXR _ _ _ _ _ _) ?_
    refine zv_world (show wR _ o A J = wR _ (upd o 0 (nI u)) A J by rw [upd_same hM.2.1]) ?_
    iterate 6 (refine zv_step (bLw b L xs) rfl rfl trivial ?_)
    refine zv_sld rfl (show vp_in (nI i + Int32.ofInt 1) L from ix6 hi hL (k := 1) (by decide)) ?_
    iterate 4 (refine zv_step (bLw b L xs) rfl rfl trivial ?_)
    refine zv_sld rfl (show vp_in (nI i + Int32.ofInt 2) L from ix6 hi hL (k := 2) (by decide)) ?_
    refine zv_V2 (bLw b L xs) rfl rfl rfl rfl rfl rfl rfl ⟨rfl, rfl, rfl⟩ ⟨Nat.le_of_ble_eq_true rfl, Nat.le_of_ble_eq_true rfl⟩ hk0 (mLeafX _ o A J hM.1 hM.2.2.1 _ _) ?_
    rintro _ _ ⟨rfl, ⟨p1, rfl⟩ | ⟨p1, rfl, pT⟩⟩
    · refine zv_world (show wR _ (upd o 0 (nI u)) A J = wR _ o A J by rw [upd_same hM.2.1]) ?_
      refine zv_world (wXR _ _ _ _ _ _).symm ?_
      iterate 2 (refine zv_step (bLw b L xs) rfl rfl trivial ?_)
      exact kk _ _ _ _ _ _ _ _ (Nat.le_add_right _ _) (Nat.le_add_right _ _) (hI)
    · refine zv_world (wXR _ _ _ _ _ _).symm ?_
      exfalso
      exact q1 p1
  · refine zv_world (wXR _ _ _ _ _ _) ?_
    refine zv_world (show wR _ o A J = wR _ (upd o 0 (nI u)) A J by rw [upd_same hM.2.1]) ?_
    iterate 6 (refine zv_step (bLw b L xs) rfl rfl trivial ?_)
    refine zv_sld rfl (show vp_in (nI i + Int32.ofInt 1) L from ix6 hi hL (k := 1) (by decide)) ?_
    iterate 4 (refine zv_step (bLw b L xs) rfl rfl trivial ?_)
    refine zv_sld rfl (show vp_in (nI i + Int32.ofInt 2) L from ix6 hi hL (k := 2) (by decide)) ?_
    refine zv_V2 (bLw b L xs) rfl rfl rfl rfl rfl rfl rfl ⟨rfl, rfl, rfl⟩ ⟨Nat.le_of_ble_eq_true rfl, Nat.le_of_ble_eq_true rfl⟩ hk0 (mLeafX _ o A J hM.1 hM.2.2.1 _ _) ?_
    rintro _ _ ⟨rfl, ⟨p1, rfl⟩ | ⟨p1, rfl, pT⟩⟩
    · refine zv_world (show wR _ (upd o 0 (nI u)) A J = wR _ o A J by rw [upd_same hM.2.1]) ?_
      refine zv_world (wXR _ _ _ _ _ _).symm ?_
      exfalso
      exact p1 q1
    · refine zv_world (wXR _ _ _ _ _ _).symm ?_
      iterate 2 (refine zv_step (bLw b L xs) rfl rfl trivial ?_)
      exact kk _ _ _ _ _ _ _ _ (Nat.le_add_right _ _) (Nat.le_add_right _ _) (⟨leaf_LI hI.1 hC hM hSS q1 pT, XS_of (u' := u + 1) q1.2 (upd_self _ _ _) (leaf_NS q1.2 (hI.2 u hC.1 hC.2.1) q1.1)⟩)
set_option maxHeartbeats 10000000 in
set_option maxRecDepth 100000 in
theorem lop_node {b L : Nat} {xs : Nat → Int32} {i kc ks : Nat} (hi : i + 6 ≤ L) (hL : L ≤ 3072) (hk : kc + 1 ≤ room_1.cells ∧ ks + 6 ≤ room_1.slots) {O : Nat → Int32} {P : Nat → Nat → Int32} {Y : Nat → Nat → Int64} {o : Nat → Int32} {A : Nat → Nat → Int32} {J : Nat → Nat → Int64} (hI : LI5 O P Y o A) {Q : Option Value → zW → Prop} (kk : ∀ (kc' ks' : Nat) (O : Nat → Int32) (P : Nat → Nat → Int32) (Y : Nat → Nat → Int64) (o : Nat → Int32) (A : Nat → Nat → Int32) (J : Nat → Nat → Int64), kc' ≤ kc + 1 → ks' ≤ ks + 6 → LI5 O P Y o A → zV (zLw b L xs) true 0 kc' ks' 1580 (zlw i) [] (wX O P Y (gR o A J)) Q) : zV (zLw b L xs) true 0 kc ks 233 (zlw i) [] (wX O P Y (gR o A J)) Q := by
  obtain ⟨u, l, d, d2, hC, hM, hkp, hfn, hSS⟩ := LI2_open hI.1
  have hk0 : kc ≤ room_1.cells ∧ ks ≤ room_1.slots := ⟨by omega, by omega⟩
  have hu1 : (O 1).toInt ≤ 120 := by rw [hC.2.1, nI_toInt (by have := hC.1; omega)]; have := hC.1; omega
  refine zv_world (show wX O P Y (gR o A J) = wX (upd O 1 (nI u)) P Y (gR o A J) by rw [upd_same hC.2.1]) ?_
  iterate 5 (refine zv_step (bLw b L xs) rfl rfl trivial ?_)
  refine zv_sld rfl (show vp_in (nI i + Int32.ofInt 1) L from ix6 hi hL (k := 1) (by decide)) ?_
  iterate 4 (refine zv_step (bLw b L xs) rfl rfl trivial ?_)
  refine zv_sld rfl (show vp_in (nI i + Int32.ofInt 2) L from ix6 hi hL (k := 2) (by decide)) ?_
  iterate 4 (refine zv_step (bLw b L xs) rfl rfl trivial ?_)
  refine zv_sld rfl (show vp_in (nI i + Int32.ofInt 3) L from ix6 hi hL (k := 3) (by decide)) ?_
  refine zv_V3 (bLw b L xs) rfl rfl rfl rfl rfl rfl rfl ⟨rfl, rfl, rfl⟩ ⟨Nat.le_of_ble_eq_true rfl, Nat.le_of_ble_eq_true rfl⟩ hk0 (cNodeX O P Y (gR o A J) hC.1 _ _ _) ?_
  rintro _ _ ⟨rfl, ⟨q1, rfl⟩ | ⟨q1, sh, rfl⟩⟩
  · refine zv_world (show wX (upd O 1 (nI u)) P Y (gR o A J) = wX O P Y (gR o A J) by rw [upd_same hC.2.1]) ?_
    refine zv_world (wXR _ _ _ _ _ _) ?_
    refine zv_world (show wR _ o A J = wR _ (upd o 0 (nI u)) A J by rw [upd_same hM.2.1]) ?_
    iterate 6 (refine zv_step (bLw b L xs) rfl rfl trivial ?_)
    refine zv_sld rfl (show vp_in (nI i + Int32.ofInt 1) L from ix6 hi hL (k := 1) (by decide)) ?_
    iterate 4 (refine zv_step (bLw b L xs) rfl rfl trivial ?_)
    refine zv_sld rfl (show vp_in (nI i + Int32.ofInt 2) L from ix6 hi hL (k := 2) (by decide)) ?_
    iterate 4 (refine zv_step (bLw b L xs) rfl rfl trivial ?_)
    refine zv_sld rfl (show vp_in (nI i + Int32.ofInt 3) L from ix6 hi hL (k := 3) (by decide)) ?_
    refine zv_V3 (bLw b L xs) rfl rfl rfl rfl rfl rfl rfl ⟨rfl, rfl, rfl⟩ ⟨Nat.le_of_ble_eq_true rfl, Nat.le_of_ble_eq_true rfl⟩ hk0 (mNodeX _ o A J hM.1 hM.2.2.1 _ _ _) ?_
    rintro _ _ ⟨rfl, ⟨p1, rfl⟩ | ⟨p1, rfl, pT⟩⟩
    · refine zv_world (show wR _ (upd o 0 (nI u)) A J = wR _ o A J by rw [upd_same hM.2.1]) ?_
      refine zv_world (wXR _ _ _ _ _ _).symm ?_
      iterate 2 (refine zv_step (bLw b L xs) rfl rfl trivial ?_)
      exact kk _ _ _ _ _ _ _ _ (Nat.le_add_right _ _) (Nat.le_add_right _ _) (hI)
    · refine zv_world (wXR _ _ _ _ _ _).symm ?_
      exfalso
      exact q1 ⟨p1.1, p1.2.1, by rw [ndS_same hC.1 hSS.2.2.1 p1.1]; exact p1.2.2⟩
  · refine zv_world (wXR _ _ _ _ _ _) ?_
    refine zv_world (show wR _ o A J = wR _ (upd o 0 (nI u)) A J by rw [upd_same hM.2.1]) ?_
    iterate 6 (refine zv_step (bLw b L xs) rfl rfl trivial ?_)
    refine zv_sld rfl (show vp_in (nI i + Int32.ofInt 1) L from ix6 hi hL (k := 1) (by decide)) ?_
    iterate 4 (refine zv_step (bLw b L xs) rfl rfl trivial ?_)
    refine zv_sld rfl (show vp_in (nI i + Int32.ofInt 2) L from ix6 hi hL (k := 2) (by decide)) ?_
    iterate 4 (refine zv_step (bLw b L xs) rfl rfl trivial ?_)
    refine zv_sld rfl (show vp_in (nI i + Int32.ofInt 3) L from ix6 hi hL (k := 3) (by decide)) ?_
    refine zv_V3 (bLw b L xs) rfl rfl rfl rfl rfl rfl rfl ⟨rfl, rfl, rfl⟩ ⟨Nat.le_of_ble_eq_true rfl, Nat.le_of_ble_eq_true rfl⟩ hk0 (mNodeX _ o A J hM.1 hM.2.2.1 _ _ _) ?_
    rintro _ _ ⟨rfl, ⟨p1, rfl⟩ | ⟨p1, rfl, pT⟩⟩
    · refine zv_world (show wR _ (upd o 0 (nI u)) A J = wR _ o A J by rw [upd_same hM.2.1]) ?_
      refine zv_world (wXR _ _ _ _ _ _).symm ?_
      exfalso
      exact p1 ⟨q1.1, q1.2.1, by rw [← ndS_same hC.1 hSS.2.2.1 q1.1]; exact q1.2.2⟩
    · refine zv_world (wXR _ _ _ _ _ _).symm ?_
      iterate 2 (refine zv_step (bLw b L xs) rfl rfl trivial ?_)
      exact kk _ _ _ _ _ _ _ _ (Nat.le_add_right _ _) (Nat.le_add_right _ _) (⟨node_LI hI.1 hC hM hSS q1.1 q1.2.1 pT, XS_of (u' := u + 1) q1.2.1 (upd_self _ _ _) (node_NS q1.2.1 (hI.2 u hC.1 hC.2.1) q1.1)⟩)
set_option maxHeartbeats 10000000 in
set_option maxRecDepth 100000 in
theorem lop_undo {b L : Nat} {xs : Nat → Int32} {i kc ks : Nat} (hi : i + 6 ≤ L) (hL : L ≤ 3072) (hk : kc + 1 ≤ room_1.cells ∧ ks + 6 ≤ room_1.slots) {O : Nat → Int32} {P : Nat → Nat → Int32} {Y : Nat → Nat → Int64} {o : Nat → Int32} {A : Nat → Nat → Int32} {J : Nat → Nat → Int64} (hI : LI5 O P Y o A) {Q : Option Value → zW → Prop} (kk : ∀ (kc' ks' : Nat) (O : Nat → Int32) (P : Nat → Nat → Int32) (Y : Nat → Nat → Int64) (o : Nat → Int32) (A : Nat → Nat → Int32) (J : Nat → Nat → Int64), kc' ≤ kc + 1 → ks' ≤ ks + 6 → LI5 O P Y o A → zV (zLw b L xs) true 0 kc' ks' 1580 (zlw i) [] (wX O P Y (gR o A J)) Q) : zV (zLw b L xs) true 0 kc ks 282 (zlw i) [] (wX O P Y (gR o A J)) Q := by
  obtain ⟨u, l, d, d2, hC, hM, hkp, hfn, hSS⟩ := LI2_open hI.1
  have hk0 : kc ≤ room_1.cells ∧ ks ≤ room_1.slots := ⟨by omega, by omega⟩
  have hu1 : (O 1).toInt ≤ 120 := by rw [hC.2.1, nI_toInt (by have := hC.1; omega)]; have := hC.1; omega
  refine zv_world (show wX O P Y (gR o A J) = wX (upd O 1 (nI u)) P Y (gR o A J) by rw [upd_same hC.2.1]) ?_
  iterate 1 (refine zv_step (bLw b L xs) rfl rfl trivial ?_)
  refine zv_V0 (bLw b L xs) rfl rfl rfl rfl rfl rfl rfl ⟨rfl, rfl, rfl⟩ ⟨Nat.le_of_ble_eq_true rfl, Nat.le_of_ble_eq_true rfl⟩ hk0 (cUndoX O P Y (gR o A J) hC.1 hC.2.2.2.2.2.2.2.2.1) ?_
  rintro _ _ ⟨rfl, ⟨q1, rfl⟩ | ⟨q1, rfl⟩⟩
  · refine zv_world (show wX (upd O 1 (nI u)) P Y (gR o A J) = wX O P Y (gR o A J) by rw [upd_same hC.2.1]) ?_
    refine zv_world (wXR _ _ _ _ _ _) ?_
    refine zv_world (show wR _ o A J = wR _ (upd o 0 (nI u)) A J by rw [upd_same hM.2.1]) ?_
    iterate 2 (refine zv_step (bLw b L xs) rfl rfl trivial ?_)
    refine zv_V0 (bLw b L xs) rfl rfl rfl rfl rfl rfl rfl ⟨rfl, rfl, rfl⟩ ⟨Nat.le_of_ble_eq_true rfl, Nat.le_of_ble_eq_true rfl⟩ hk0 (mUndoX _ o A J hM.1 hM.2.2.2.2.2.2.2.2.2.1) ?_
    rintro _ _ ⟨rfl, ⟨p1, rfl⟩ | ⟨p1, rfl⟩⟩
    · refine zv_world (show wR _ (upd o 0 (nI u)) A J = wR _ o A J by rw [upd_same hM.2.1]) ?_
      refine zv_world (wXR _ _ _ _ _ _).symm ?_
      iterate 2 (refine zv_step (bLw b L xs) rfl rfl trivial ?_)
      exact kk _ _ _ _ _ _ _ _ (Nat.le_add_right _ _) (Nat.le_add_right _ _) (hI)
    · refine zv_world (wXR _ _ _ _ _ _).symm ?_
      exfalso
      exact q1 ⟨p1.1, fun w => p1.2 ((undo_same hSS).mp w)⟩
  · refine zv_world (wXR _ _ _ _ _ _) ?_
    refine zv_world (show wR _ o A J = wR _ (upd o 0 (nI u)) A J by rw [upd_same hM.2.1]) ?_
    iterate 2 (refine zv_step (bLw b L xs) rfl rfl trivial ?_)
    refine zv_V0 (bLw b L xs) rfl rfl rfl rfl rfl rfl rfl ⟨rfl, rfl, rfl⟩ ⟨Nat.le_of_ble_eq_true rfl, Nat.le_of_ble_eq_true rfl⟩ hk0 (mUndoX _ o A J hM.1 hM.2.2.2.2.2.2.2.2.2.1) ?_
    rintro _ _ ⟨rfl, ⟨p1, rfl⟩ | ⟨p1, rfl⟩⟩
    · refine zv_world (show wR _ (upd o 0 (nI u)) A J = wR _ o A J by rw [upd_same hM.2.1]) ?_
      refine zv_world (wXR _ _ _ _ _ _).symm ?_
      exfalso
      exact p1 ⟨q1.1, fun w => q1.2 ((undo_same hSS).mpr w)⟩
    · refine zv_world (wXR _ _ _ _ _ _).symm ?_
      iterate 2 (refine zv_step (bLw b L xs) rfl rfl trivial ?_)
      exact kk _ _ _ _ _ _ _ _ (Nat.le_add_right _ _) (Nat.le_add_right _ _) (⟨undo_LI hI.1 hC hM hSS q1 p1, XS_of (u' := u - 1) (by have := hC.1; omega) (upd_self _ _ _) (NS_le (hI.2 u hC.1 hC.2.1) (by omega))⟩)
set_option maxHeartbeats 10000000 in
set_option maxRecDepth 100000 in
theorem lop_means {b L : Nat} {xs : Nat → Int32} {i kc ks : Nat} (hi : i + 6 ≤ L) (hL : L ≤ 3072) (hk : kc + 1 ≤ room_1.cells ∧ ks + 6 ≤ room_1.slots) {O : Nat → Int32} {P : Nat → Nat → Int32} {Y : Nat → Nat → Int64} {o : Nat → Int32} {A : Nat → Nat → Int32} {J : Nat → Nat → Int64} (hI : LI5 O P Y o A) {Q : Option Value → zW → Prop} (kk : ∀ (kc' ks' : Nat) (O : Nat → Int32) (P : Nat → Nat → Int32) (Y : Nat → Nat → Int64) (o : Nat → Int32) (A : Nat → Nat → Int32) (J : Nat → Nat → Int64), kc' ≤ kc + 1 → ks' ≤ ks + 6 → LI5 O P Y o A → zV (zLw b L xs) true 0 kc' ks' 1580 (zlw i) [] (wX O P Y (gR o A J)) Q) : zV (zLw b L xs) true 0 kc ks 295 (zlw i) [] (wX O P Y (gR o A J)) Q := by
  obtain ⟨u, l, d, d2, hC, hM, hkp, hfn, hSS⟩ := LI2_open hI.1
  have hk0 : kc ≤ room_1.cells ∧ ks ≤ room_1.slots := ⟨by omega, by omega⟩
  have hu1 : (O 1).toInt ≤ 120 := by rw [hC.2.1, nI_toInt (by have := hC.1; omega)]; have := hC.1; omega
  iterate 5 (refine zv_step (bLw b L xs) rfl rfl trivial ?_)
  refine zv_sld rfl (show vp_in (nI i + Int32.ofInt 1) L from ix6 hi hL (k := 1) (by decide)) ?_
  iterate 4 (refine zv_step (bLw b L xs) rfl rfl trivial ?_)
  refine zv_sld rfl (show vp_in (nI i + Int32.ofInt 2) L from ix6 hi hL (k := 2) (by decide)) ?_
  iterate 1 (refine zv_step (bLw b L xs) rfl rfl trivial ?_)
  refine zv_ifb (fun h308 => ?_) (fun h308 => ?_)
  · iterate 1 (refine zv_step (bLw b L xs) rfl rfl trivial ?_)
    refine zv_V2 (bLw b L xs) rfl rfl rfl rfl rfl rfl rfl ⟨rfl, rfl, rfl⟩ ⟨Nat.le_of_ble_eq_true rfl, Nat.le_of_ble_eq_true rfl⟩ hk0 (cMeans O P Y (gR o A J) _ _) ?_
    rintro _ _ hk9
    rcases meansC hk9 with ⟨v, hv, ex, rfl, ⟨e1, rfl⟩ | ⟨e1, rfl⟩⟩ | ⟨q1, rfl, rfl⟩
    · refine zv_world (wXR _ _ _ _ _ _) ?_
      iterate 6 (refine zv_step (bLw b L xs) rfl rfl trivial ?_)
      refine zv_sld rfl (show vp_in (nI i + Int32.ofInt 1) L from ix6 hi hL (k := 1) (by decide)) ?_
      iterate 4 (refine zv_step (bLw b L xs) rfl rfl trivial ?_)
      refine zv_sld rfl (show vp_in (nI i + Int32.ofInt 2) L from ix6 hi hL (k := 2) (by decide)) ?_
      iterate 1 (refine zv_step (bLw b L xs) rfl rfl trivial ?_)
      refine zv_ift (h308) ?_
      iterate 1 (refine zv_step (bLw b L xs) rfl rfl trivial ?_)
      refine zv_V2 (bLw b L xs) rfl rfl rfl rfl rfl rfl rfl ⟨rfl, rfl, rfl⟩ ⟨Nat.le_of_ble_eq_true rfl, Nat.le_of_ble_eq_true rfl⟩ hk0 (mMeans _ o A J _ _ (Or.inl rfl)) ?_
      rintro _ _ (⟨v', hv', ex', rfl, ⟨e1', rfl⟩ | ⟨e1', rfl⟩⟩ | ⟨q1', rfl, rfl⟩)
      · refine zv_world (wXR _ _ _ _ _ _).symm ?_
        iterate 2 (refine zv_step (bLw b L xs) rfl rfl trivial ?_)
        have es : v = v' := (nI_eq (by omega) (by omega)).mp (ex.symm.trans ex')
        subst es
        have hko := means_ok hfn (show v < 10 by omega) (on := Int32.ofInt 0) (Or.inl rfl)
        exact kk _ _ _ _ _ _ _ _ (Nat.le_add_right _ _) (Nat.le_add_right _ _) ⟨⟨⟨cI_mn hC _, mI_b hM (Or.inl rfl) (Or.inl rfl), fun s9 hs9 => by
          obtain ⟨m9, a9, b9, c9⟩ := hkp s9 hs9
          exact ⟨m9, a9, b9, fun v hv => by rw [updA_ne _ _ (by decide)]; exact c9 v hv⟩, hko.1⟩, u, l, hC.1, hC.2.2.2.1, means_SS hC.1 hSS _ _⟩, XS_rw hI.2 hC.1 hC.2.1 rfl (fun _ _ _ => rfl) (fun r hr j _ => by rw [updA_ne _ _ (by omega)])⟩
      · refine zv_world (wXR _ _ _ _ _ _).symm ?_
        exfalso
        have es : v = v' := (nI_eq (by omega) (by omega)).mp (ex.symm.trans ex')
        subst es
        have hko := means_ok hfn (show v < 10 by omega) (on := Int32.ofInt 0) (Or.inl rfl)
        exact absurd (hko.2.mp e1) e1'
      · refine zv_world (wXR _ _ _ _ _ _).symm ?_
        exfalso
        exact q1' (by rw [ex, nI_toInt (by omega)]; omega)
    · refine zv_world (wXR _ _ _ _ _ _) ?_
      iterate 6 (refine zv_step (bLw b L xs) rfl rfl trivial ?_)
      refine zv_sld rfl (show vp_in (nI i + Int32.ofInt 1) L from ix6 hi hL (k := 1) (by decide)) ?_
      iterate 4 (refine zv_step (bLw b L xs) rfl rfl trivial ?_)
      refine zv_sld rfl (show vp_in (nI i + Int32.ofInt 2) L from ix6 hi hL (k := 2) (by decide)) ?_
      iterate 1 (refine zv_step (bLw b L xs) rfl rfl trivial ?_)
      refine zv_ift (h308) ?_
      iterate 1 (refine zv_step (bLw b L xs) rfl rfl trivial ?_)
      refine zv_V2 (bLw b L xs) rfl rfl rfl rfl rfl rfl rfl ⟨rfl, rfl, rfl⟩ ⟨Nat.le_of_ble_eq_true rfl, Nat.le_of_ble_eq_true rfl⟩ hk0 (mMeans _ o A J _ _ (Or.inl rfl)) ?_
      rintro _ _ (⟨v', hv', ex', rfl, ⟨e1', rfl⟩ | ⟨e1', rfl⟩⟩ | ⟨q1', rfl, rfl⟩)
      · refine zv_world (wXR _ _ _ _ _ _).symm ?_
        exfalso
        have es : v = v' := (nI_eq (by omega) (by omega)).mp (ex.symm.trans ex')
        subst es
        have hko := means_ok hfn (show v < 10 by omega) (on := Int32.ofInt 0) (Or.inl rfl)
        exact absurd (hko.2.mpr e1') e1
      · refine zv_world (wXR _ _ _ _ _ _).symm ?_
        iterate 2 (refine zv_step (bLw b L xs) rfl rfl trivial ?_)
        have es : v = v' := (nI_eq (by omega) (by omega)).mp (ex.symm.trans ex')
        subst es
        have hko := means_ok hfn (show v < 10 by omega) (on := Int32.ofInt 0) (Or.inl rfl)
        exact kk _ _ _ _ _ _ _ _ (Nat.le_add_right _ _) (Nat.le_add_right _ _) ⟨⟨⟨cI_mn hC _, mI_b hM (Or.inl rfl) (Or.inl rfl), fun s9 hs9 => by
          obtain ⟨m9, a9, b9, c9⟩ := hkp s9 hs9
          exact ⟨m9, a9, b9, fun v hv => by rw [updA_ne _ _ (by decide)]; exact c9 v hv⟩, hko.1⟩, u, l, hC.1, hC.2.2.2.1, means_SS hC.1 hSS _ _⟩, XS_rw hI.2 hC.1 hC.2.1 rfl (fun _ _ _ => rfl) (fun r hr j _ => by rw [updA_ne _ _ (by omega)])⟩
      · refine zv_world (wXR _ _ _ _ _ _).symm ?_
        exfalso
        exact q1' (by rw [ex, nI_toInt (by omega)]; omega)
    · refine zv_world (wXR _ _ _ _ _ _) ?_
      iterate 6 (refine zv_step (bLw b L xs) rfl rfl trivial ?_)
      refine zv_sld rfl (show vp_in (nI i + Int32.ofInt 1) L from ix6 hi hL (k := 1) (by decide)) ?_
      iterate 4 (refine zv_step (bLw b L xs) rfl rfl trivial ?_)
      refine zv_sld rfl (show vp_in (nI i + Int32.ofInt 2) L from ix6 hi hL (k := 2) (by decide)) ?_
      iterate 1 (refine zv_step (bLw b L xs) rfl rfl trivial ?_)
      refine zv_ift (h308) ?_
      iterate 1 (refine zv_step (bLw b L xs) rfl rfl trivial ?_)
      refine zv_V2 (bLw b L xs) rfl rfl rfl rfl rfl rfl rfl ⟨rfl, rfl, rfl⟩ ⟨Nat.le_of_ble_eq_true rfl, Nat.le_of_ble_eq_true rfl⟩ hk0 (mMeans _ o A J _ _ (Or.inl rfl)) ?_
      rintro _ _ (⟨v', hv', ex', rfl, ⟨e1', rfl⟩ | ⟨e1', rfl⟩⟩ | ⟨q1', rfl, rfl⟩)
      · refine zv_world (wXR _ _ _ _ _ _).symm ?_
        exfalso
        exact q1 (by rw [ex', nI_toInt (by omega)]; omega)
      · refine zv_world (wXR _ _ _ _ _ _).symm ?_
        exfalso
        exact q1 (by rw [ex', nI_toInt (by omega)]; omega)
      · refine zv_world (wXR _ _ _ _ _ _).symm ?_
        iterate 2 (refine zv_step (bLw b L xs) rfl rfl trivial ?_)
        exact kk _ _ _ _ _ _ _ _ (Nat.le_add_right _ _) (Nat.le_add_right _ _) hI
  · iterate 2 (refine zv_step (bLw b L xs) rfl rfl trivial ?_)
    refine zv_V2 (bLw b L xs) rfl rfl rfl rfl rfl rfl rfl ⟨rfl, rfl, rfl⟩ ⟨Nat.le_of_ble_eq_true rfl, Nat.le_of_ble_eq_true rfl⟩ hk0 (cMeans O P Y (gR o A J) _ _) ?_
    rintro _ _ hk9
    rcases meansC hk9 with ⟨v, hv, ex, rfl, ⟨e1, rfl⟩ | ⟨e1, rfl⟩⟩ | ⟨q1, rfl, rfl⟩
    · refine zv_world (wXR _ _ _ _ _ _) ?_
      iterate 6 (refine zv_step (bLw b L xs) rfl rfl trivial ?_)
      refine zv_sld rfl (show vp_in (nI i + Int32.ofInt 1) L from ix6 hi hL (k := 1) (by decide)) ?_
      iterate 4 (refine zv_step (bLw b L xs) rfl rfl trivial ?_)
      refine zv_sld rfl (show vp_in (nI i + Int32.ofInt 2) L from ix6 hi hL (k := 2) (by decide)) ?_
      iterate 1 (refine zv_step (bLw b L xs) rfl rfl trivial ?_)
      refine zv_iff (h308) ?_
      iterate 2 (refine zv_step (bLw b L xs) rfl rfl trivial ?_)
      refine zv_V2 (bLw b L xs) rfl rfl rfl rfl rfl rfl rfl ⟨rfl, rfl, rfl⟩ ⟨Nat.le_of_ble_eq_true rfl, Nat.le_of_ble_eq_true rfl⟩ hk0 (mMeans _ o A J _ _ (Or.inr rfl)) ?_
      rintro _ _ (⟨v', hv', ex', rfl, ⟨e1', rfl⟩ | ⟨e1', rfl⟩⟩ | ⟨q1', rfl, rfl⟩)
      · refine zv_world (wXR _ _ _ _ _ _).symm ?_
        iterate 2 (refine zv_step (bLw b L xs) rfl rfl trivial ?_)
        have es : v = v' := (nI_eq (by omega) (by omega)).mp (ex.symm.trans ex')
        subst es
        have hko := means_ok hfn (show v < 10 by omega) (on := Int32.ofInt 1) (Or.inr rfl)
        exact kk _ _ _ _ _ _ _ _ (Nat.le_add_right _ _) (Nat.le_add_right _ _) ⟨⟨⟨cI_mn hC _, mI_b hM (Or.inl rfl) (Or.inr rfl), fun s9 hs9 => by
          obtain ⟨m9, a9, b9, c9⟩ := hkp s9 hs9
          exact ⟨m9, a9, b9, fun v hv => by rw [updA_ne _ _ (by decide)]; exact c9 v hv⟩, hko.1⟩, u, l, hC.1, hC.2.2.2.1, means_SS hC.1 hSS _ _⟩, XS_rw hI.2 hC.1 hC.2.1 rfl (fun _ _ _ => rfl) (fun r hr j _ => by rw [updA_ne _ _ (by omega)])⟩
      · refine zv_world (wXR _ _ _ _ _ _).symm ?_
        exfalso
        have es : v = v' := (nI_eq (by omega) (by omega)).mp (ex.symm.trans ex')
        subst es
        have hko := means_ok hfn (show v < 10 by omega) (on := Int32.ofInt 1) (Or.inr rfl)
        exact absurd (hko.2.mp e1) e1'
      · refine zv_world (wXR _ _ _ _ _ _).symm ?_
        exfalso
        exact q1' (by rw [ex, nI_toInt (by omega)]; omega)
    · refine zv_world (wXR _ _ _ _ _ _) ?_
      iterate 6 (refine zv_step (bLw b L xs) rfl rfl trivial ?_)
      refine zv_sld rfl (show vp_in (nI i + Int32.ofInt 1) L from ix6 hi hL (k := 1) (by decide)) ?_
      iterate 4 (refine zv_step (bLw b L xs) rfl rfl trivial ?_)
      refine zv_sld rfl (show vp_in (nI i + Int32.ofInt 2) L from ix6 hi hL (k := 2) (by decide)) ?_
      iterate 1 (refine zv_step (bLw b L xs) rfl rfl trivial ?_)
      refine zv_iff (h308) ?_
      iterate 2 (refine zv_step (bLw b L xs) rfl rfl trivial ?_)
      refine zv_V2 (bLw b L xs) rfl rfl rfl rfl rfl rfl rfl ⟨rfl, rfl, rfl⟩ ⟨Nat.le_of_ble_eq_true rfl, Nat.le_of_ble_eq_true rfl⟩ hk0 (mMeans _ o A J _ _ (Or.inr rfl)) ?_
      rintro _ _ (⟨v', hv', ex', rfl, ⟨e1', rfl⟩ | ⟨e1', rfl⟩⟩ | ⟨q1', rfl, rfl⟩)
      · refine zv_world (wXR _ _ _ _ _ _).symm ?_
        exfalso
        have es : v = v' := (nI_eq (by omega) (by omega)).mp (ex.symm.trans ex')
        subst es
        have hko := means_ok hfn (show v < 10 by omega) (on := Int32.ofInt 1) (Or.inr rfl)
        exact absurd (hko.2.mpr e1') e1
      · refine zv_world (wXR _ _ _ _ _ _).symm ?_
        iterate 2 (refine zv_step (bLw b L xs) rfl rfl trivial ?_)
        have es : v = v' := (nI_eq (by omega) (by omega)).mp (ex.symm.trans ex')
        subst es
        have hko := means_ok hfn (show v < 10 by omega) (on := Int32.ofInt 1) (Or.inr rfl)
        exact kk _ _ _ _ _ _ _ _ (Nat.le_add_right _ _) (Nat.le_add_right _ _) ⟨⟨⟨cI_mn hC _, mI_b hM (Or.inl rfl) (Or.inr rfl), fun s9 hs9 => by
          obtain ⟨m9, a9, b9, c9⟩ := hkp s9 hs9
          exact ⟨m9, a9, b9, fun v hv => by rw [updA_ne _ _ (by decide)]; exact c9 v hv⟩, hko.1⟩, u, l, hC.1, hC.2.2.2.1, means_SS hC.1 hSS _ _⟩, XS_rw hI.2 hC.1 hC.2.1 rfl (fun _ _ _ => rfl) (fun r hr j _ => by rw [updA_ne _ _ (by omega)])⟩
      · refine zv_world (wXR _ _ _ _ _ _).symm ?_
        exfalso
        exact q1' (by rw [ex, nI_toInt (by omega)]; omega)
    · refine zv_world (wXR _ _ _ _ _ _) ?_
      iterate 6 (refine zv_step (bLw b L xs) rfl rfl trivial ?_)
      refine zv_sld rfl (show vp_in (nI i + Int32.ofInt 1) L from ix6 hi hL (k := 1) (by decide)) ?_
      iterate 4 (refine zv_step (bLw b L xs) rfl rfl trivial ?_)
      refine zv_sld rfl (show vp_in (nI i + Int32.ofInt 2) L from ix6 hi hL (k := 2) (by decide)) ?_
      iterate 1 (refine zv_step (bLw b L xs) rfl rfl trivial ?_)
      refine zv_iff (h308) ?_
      iterate 2 (refine zv_step (bLw b L xs) rfl rfl trivial ?_)
      refine zv_V2 (bLw b L xs) rfl rfl rfl rfl rfl rfl rfl ⟨rfl, rfl, rfl⟩ ⟨Nat.le_of_ble_eq_true rfl, Nat.le_of_ble_eq_true rfl⟩ hk0 (mMeans _ o A J _ _ (Or.inr rfl)) ?_
      rintro _ _ (⟨v', hv', ex', rfl, ⟨e1', rfl⟩ | ⟨e1', rfl⟩⟩ | ⟨q1', rfl, rfl⟩)
      · refine zv_world (wXR _ _ _ _ _ _).symm ?_
        exfalso
        exact q1 (by rw [ex', nI_toInt (by omega)]; omega)
      · refine zv_world (wXR _ _ _ _ _ _).symm ?_
        exfalso
        exact q1 (by rw [ex', nI_toInt (by omega)]; omega)
      · refine zv_world (wXR _ _ _ _ _ _).symm ?_
        iterate 2 (refine zv_step (bLw b L xs) rfl rfl trivial ?_)
        exact kk _ _ _ _ _ _ _ _ (Nat.le_add_right _ _) (Nat.le_add_right _ _) hI
set_option maxHeartbeats 10000000 in
set_option maxRecDepth 100000 in
theorem lop_look {b L : Nat} {xs : Nat → Int32} {i kc ks : Nat} (hi : i + 6 ≤ L) (hL : L ≤ 3072) (hk : kc + 1 ≤ room_1.cells ∧ ks + 6 ≤ room_1.slots) {O : Nat → Int32} {P : Nat → Nat → Int32} {Y : Nat → Nat → Int64} {o : Nat → Int32} {A : Nat → Nat → Int32} {J : Nat → Nat → Int64} (hI : LI5 O P Y o A) {Q : Option Value → zW → Prop} (kk : ∀ (kc' ks' : Nat) (O : Nat → Int32) (P : Nat → Nat → Int32) (Y : Nat → Nat → Int64) (o : Nat → Int32) (A : Nat → Nat → Int32) (J : Nat → Nat → Int64), kc' ≤ kc + 1 → ks' ≤ ks + 6 → LI5 O P Y o A → zV (zLw b L xs) true 0 kc' ks' 1580 (zlw i) [] (wX O P Y (gR o A J)) Q) : zV (zLw b L xs) true 0 kc ks 348 (zlw i) [] (wX O P Y (gR o A J)) Q := by
  obtain ⟨u, l, d, d2, hC, hM, hkp, hfn, hSS⟩ := LI2_open hI.1
  have hk0 : kc ≤ room_1.cells ∧ ks ≤ room_1.slots := ⟨by omega, by omega⟩
  have hu1 : (O 1).toInt ≤ 120 := by rw [hC.2.1, nI_toInt (by have := hC.1; omega)]; have := hC.1; omega
  iterate 5 (refine zv_step (bLw b L xs) rfl rfl trivial ?_)
  refine zv_sld rfl (show vp_in (nI i + Int32.ofInt 1) L from ix6 hi hL (k := 1) (by decide)) ?_
  iterate 4 (refine zv_step (bLw b L xs) rfl rfl trivial ?_)
  refine zv_sld rfl (show vp_in (nI i + Int32.ofInt 2) L from ix6 hi hL (k := 2) (by decide)) ?_
  refine zv_V2 (bLw b L xs) rfl rfl rfl rfl rfl rfl rfl ⟨rfl, rfl, rfl⟩ ⟨Nat.le_of_ble_eq_true rfl, Nat.le_of_ble_eq_true rfl⟩ hk0 (cLook O P Y (gR o A J) hu1 _ _) ?_
  rintro _ _ ⟨rfl, v, rfl⟩
  have hc := cI_id hC
  have ce := cE_id O P
  have dc := (rfl : P 12 = P 12)
  refine zv_world (wXR _ _ _ _ _ _) ?_
  iterate 6 (refine zv_step (bLw b L xs) rfl rfl trivial ?_)
  refine zv_sld rfl (show vp_in (nI i + Int32.ofInt 1) L from ix6 hi hL (k := 1) (by decide)) ?_
  iterate 4 (refine zv_step (bLw b L xs) rfl rfl trivial ?_)
  refine zv_sld rfl (show vp_in (nI i + Int32.ofInt 2) L from ix6 hi hL (k := 2) (by decide)) ?_
  refine zv_V2 (bLw b L xs) rfl rfl rfl rfl rfl rfl rfl ⟨rfl, rfl, rfl⟩ ⟨Nat.le_of_ble_eq_true rfl, Nat.le_of_ble_eq_true rfl⟩ hk0 (mLook _ o A J hM.1 hM.2.1 hM.2.2.1 _ _) ?_
  rintro _ _ ⟨rfl, v1, rfl⟩
  have hm := mI_id hM
  have me := mE_id u o A
  refine zv_world (wXR _ _ _ _ _ _).symm ?_
  iterate 2 (refine zv_step (bLw b L xs) rfl rfl trivial ?_)
  exact kk _ _ _ _ _ _ _ _ (Nat.le_add_right _ _) (Nat.le_add_right _ _) (LI5_fr (d2 := d2) hI hC hSS hc hm ce me dc)
set_option maxHeartbeats 10000000 in
set_option maxRecDepth 100000 in
theorem lop_alike {b L : Nat} {xs : Nat → Int32} {i kc ks : Nat} (hi : i + 6 ≤ L) (hL : L ≤ 3072) (hk : kc + 1 ≤ room_1.cells ∧ ks + 6 ≤ room_1.slots) {O : Nat → Int32} {P : Nat → Nat → Int32} {Y : Nat → Nat → Int64} {o : Nat → Int32} {A : Nat → Nat → Int32} {J : Nat → Nat → Int64} (hI : LI5 O P Y o A) {Q : Option Value → zW → Prop} (kk : ∀ (kc' ks' : Nat) (O : Nat → Int32) (P : Nat → Nat → Int32) (Y : Nat → Nat → Int64) (o : Nat → Int32) (A : Nat → Nat → Int32) (J : Nat → Nat → Int64), kc' ≤ kc + 1 → ks' ≤ ks + 6 → LI5 O P Y o A → zV (zLw b L xs) true 0 kc' ks' 1580 (zlw i) [] (wX O P Y (gR o A J)) Q) : zV (zLw b L xs) true 0 kc ks 385 (zlw i) [] (wX O P Y (gR o A J)) Q := by
  obtain ⟨u, l, d, d2, hC, hM, hkp, hfn, hSS⟩ := LI2_open hI.1
  have hk0 : kc ≤ room_1.cells ∧ ks ≤ room_1.slots := ⟨by omega, by omega⟩
  have hu1 : (O 1).toInt ≤ 120 := by rw [hC.2.1, nI_toInt (by have := hC.1; omega)]; have := hC.1; omega
  iterate 5 (refine zv_step (bLw b L xs) rfl rfl trivial ?_)
  refine zv_sld rfl (show vp_in (nI i + Int32.ofInt 1) L from ix6 hi hL (k := 1) (by decide)) ?_
  iterate 4 (refine zv_step (bLw b L xs) rfl rfl trivial ?_)
  refine zv_sld rfl (show vp_in (nI i + Int32.ofInt 2) L from ix6 hi hL (k := 2) (by decide)) ?_
  refine zv_V2 (bLw b L xs) rfl rfl rfl rfl rfl rfl rfl ⟨rfl, rfl, rfl⟩ ⟨Nat.le_of_ble_eq_true rfl, Nat.le_of_ble_eq_true rfl⟩ hk0 (cAlike O P Y (gR o A J) hu1 _ _) ?_
  rintro _ _ ⟨rfl, v, rfl⟩
  have hc := cI_id hC
  have ce := cE_id O P
  have dc := (rfl : P 12 = P 12)
  refine zv_world (wXR _ _ _ _ _ _) ?_
  iterate 6 (refine zv_step (bLw b L xs) rfl rfl trivial ?_)
  refine zv_sld rfl (show vp_in (nI i + Int32.ofInt 1) L from ix6 hi hL (k := 1) (by decide)) ?_
  iterate 4 (refine zv_step (bLw b L xs) rfl rfl trivial ?_)
  refine zv_sld rfl (show vp_in (nI i + Int32.ofInt 2) L from ix6 hi hL (k := 2) (by decide)) ?_
  refine zv_V2 (bLw b L xs) rfl rfl rfl rfl rfl rfl rfl ⟨rfl, rfl, rfl⟩ ⟨Nat.le_of_ble_eq_true rfl, Nat.le_of_ble_eq_true rfl⟩ hk0 (mAlikeP _ o A J hM.1 hM.2.1 hM.2.2.1 _ _) ?_
  rintro _ _ ⟨rfl, v1, rfl⟩
  have hm := mI_id hM
  have me := mE_id u o A
  refine zv_world (wXR _ _ _ _ _ _).symm ?_
  iterate 2 (refine zv_step (bLw b L xs) rfl rfl trivial ?_)
  exact kk _ _ _ _ _ _ _ _ (Nat.le_add_right _ _) (Nat.le_add_right _ _) (LI5_fr (d2 := d2) hI hC hSS hc hm ce me dc)
set_option maxHeartbeats 10000000 in
set_option maxRecDepth 100000 in
theorem lop_times {b L : Nat} {xs : Nat → Int32} {i kc ks : Nat} (hi : i + 6 ≤ L) (hL : L ≤ 3072) (hk : kc + 1 ≤ room_1.cells ∧ ks + 6 ≤ room_1.slots) {O : Nat → Int32} {P : Nat → Nat → Int32} {Y : Nat → Nat → Int64} {o : Nat → Int32} {A : Nat → Nat → Int32} {J : Nat → Nat → Int64} (hI : LI5 O P Y o A) {Q : Option Value → zW → Prop} (kk : ∀ (kc' ks' : Nat) (O : Nat → Int32) (P : Nat → Nat → Int32) (Y : Nat → Nat → Int64) (o : Nat → Int32) (A : Nat → Nat → Int32) (J : Nat → Nat → Int64), kc' ≤ kc + 1 → ks' ≤ ks + 6 → LI5 O P Y o A → zV (zLw b L xs) true 0 kc' ks' 1580 (zlw i) [] (wX O P Y (gR o A J)) Q) : zV (zLw b L xs) true 0 kc ks 422 (zlw i) [] (wX O P Y (gR o A J)) Q := by
  obtain ⟨u, l, d, d2, hC, hM, hkp, hfn, hSS⟩ := LI2_open hI.1
  have hk0 : kc ≤ room_1.cells ∧ ks ≤ room_1.slots := ⟨by omega, by omega⟩
  have hu1 : (O 1).toInt ≤ 120 := by rw [hC.2.1, nI_toInt (by have := hC.1; omega)]; have := hC.1; omega
  iterate 5 (refine zv_step (bLw b L xs) rfl rfl trivial ?_)
  refine zv_sld rfl (show vp_in (nI i + Int32.ofInt 1) L from ix6 hi hL (k := 1) (by decide)) ?_
  iterate 4 (refine zv_step (bLw b L xs) rfl rfl trivial ?_)
  refine zv_sld rfl (show vp_in (nI i + Int32.ofInt 2) L from ix6 hi hL (k := 2) (by decide)) ?_
  refine zv_V2 (bLw b L xs) rfl rfl rfl rfl rfl rfl rfl ⟨rfl, rfl, rfl⟩ ⟨Nat.le_of_ble_eq_true rfl, Nat.le_of_ble_eq_true rfl⟩ hk0 (cTimesX O P Y (gR o A J) hC.1 hC.2.1 (NR_PO hSS.2.2.1) _ _) ?_
  rintro _ _ ⟨R', R, rfl, rfl, g1⟩
  have hc := cI_13 hC R'
  have ce := cE_13 O P R'
  have dc := (rfl : updA P 13 R' 12 = P 12)
  refine zv_world (wXR _ _ _ _ _ _) ?_
  iterate 5 (refine zv_step (bLw b L xs) rfl rfl trivial ?_)
  refine zv_sld rfl (show vp_in (nI i + Int32.ofInt 1) L from ix6 hi hL (k := 1) (by decide)) ?_
  iterate 4 (refine zv_step (bLw b L xs) rfl rfl trivial ?_)
  refine zv_sld rfl (show vp_in (nI i + Int32.ofInt 2) L from ix6 hi hL (k := 2) (by decide)) ?_
  refine zv_V2 (bLw b L xs) rfl rfl rfl rfl rfl rfl rfl ⟨rfl, rfl, rfl⟩ ⟨Nat.le_of_ble_eq_true rfl, Nat.le_of_ble_eq_true rfl⟩ hk0 (mTimesX _ o A J hM.1 hM.2.1 hM.2.2.1 _ _) ?_
  rintro _ _ ⟨rfl, R1, rfl, g2⟩
  have hm := mI_id hM
  have me := mE_id u o A
  refine zv_world (wXR _ _ _ _ _ _).symm ?_
  iterate 1 (refine zv_step (bLw b L xs) rfl rfl trivial ?_)
  refine zv_ift (twR_same hC.1 g1 g2 (fun n m hn hm => congrArg nI (tm_same hC.1 hM.2.2.1 hSS.2.2.1 (fun k hk => ak_same hC.1 hM.2.2.1 (hI.2 u hC.1 hC.2.1) k m hk hm) 40 n hn (rN_sz (hM.2.2.1 n (Nat.zero_le _) hn)).2.1))) ?_
  exact kk _ _ _ _ _ _ _ _ (Nat.le_add_right _ _) (Nat.le_add_right _ _) (LI5_fr (d2 := d2) hI hC hSS hc hm ce me dc)
set_option maxHeartbeats 10000000 in
set_option maxRecDepth 100000 in
theorem lop_keeps {b L : Nat} {xs : Nat → Int32} {i kc ks : Nat} (hi : i + 6 ≤ L) (hL : L ≤ 3072) (hk : kc + 1 ≤ room_1.cells ∧ ks + 6 ≤ room_1.slots) {O : Nat → Int32} {P : Nat → Nat → Int32} {Y : Nat → Nat → Int64} {o : Nat → Int32} {A : Nat → Nat → Int32} {J : Nat → Nat → Int64} (hI : LI5 O P Y o A) {Q : Option Value → zW → Prop} (kk : ∀ (kc' ks' : Nat) (O : Nat → Int32) (P : Nat → Nat → Int32) (Y : Nat → Nat → Int64) (o : Nat → Int32) (A : Nat → Nat → Int32) (J : Nat → Nat → Int64), kc' ≤ kc + 1 → ks' ≤ ks + 6 → LI5 O P Y o A → zV (zLw b L xs) true 0 kc' ks' 1580 (zlw i) [] (wX O P Y (gR o A J)) Q) : zV (zLw b L xs) true 0 kc ks 459 (zlw i) [] (wX O P Y (gR o A J)) Q := by
  obtain ⟨u, l, d, d2, hC, hM, hkp, hfn, hSS⟩ := LI2_open hI.1
  have hk0 : kc ≤ room_1.cells ∧ ks ≤ room_1.slots := ⟨by omega, by omega⟩
  have hu1 : (O 1).toInt ≤ 120 := by rw [hC.2.1, nI_toInt (by have := hC.1; omega)]; have := hC.1; omega
  iterate 5 (refine zv_step (bLw b L xs) rfl rfl trivial ?_)
  refine zv_sld rfl (show vp_in (nI i + Int32.ofInt 1) L from ix6 hi hL (k := 1) (by decide)) ?_
  iterate 4 (refine zv_step (bLw b L xs) rfl rfl trivial ?_)
  refine zv_sld rfl (show vp_in (nI i + Int32.ofInt 2) L from ix6 hi hL (k := 2) (by decide)) ?_
  iterate 4 (refine zv_step (bLw b L xs) rfl rfl trivial ?_)
  refine zv_sld rfl (show vp_in (nI i + Int32.ofInt 3) L from ix6 hi hL (k := 3) (by decide)) ?_
  iterate 1 (refine zv_step (bLw b L xs) rfl rfl trivial ?_)
  refine zv_ifb (fun h478 => ?_) (fun h478 => ?_)
  · iterate 1 (refine zv_step (bLw b L xs) rfl rfl trivial ?_)
    refine zv_V3 (bLw b L xs) rfl rfl rfl rfl rfl rfl rfl ⟨rfl, rfl, rfl⟩ ⟨Nat.le_of_ble_eq_true rfl, Nat.le_of_ble_eq_true rfl⟩ hk0 (cKeeps O P Y (gR o A J) _ _ _) ?_
    rintro _ _ hk9
    rcases keepsC hk9 with ⟨s, k, hs, hk2, hk8, ex, ey, rfl, ⟨e1, rfl⟩ | ⟨e1, rfl⟩⟩ | ⟨q1, rfl, rfl⟩
    · refine zv_world (wXR _ _ _ _ _ _) ?_
      iterate 6 (refine zv_step (bLw b L xs) rfl rfl trivial ?_)
      refine zv_sld rfl (show vp_in (nI i + Int32.ofInt 1) L from ix6 hi hL (k := 1) (by decide)) ?_
      iterate 4 (refine zv_step (bLw b L xs) rfl rfl trivial ?_)
      refine zv_sld rfl (show vp_in (nI i + Int32.ofInt 2) L from ix6 hi hL (k := 2) (by decide)) ?_
      iterate 4 (refine zv_step (bLw b L xs) rfl rfl trivial ?_)
      refine zv_sld rfl (show vp_in (nI i + Int32.ofInt 3) L from ix6 hi hL (k := 3) (by decide)) ?_
      iterate 1 (refine zv_step (bLw b L xs) rfl rfl trivial ?_)
      refine zv_ift (h478) ?_
      iterate 1 (refine zv_step (bLw b L xs) rfl rfl trivial ?_)
      refine zv_V3 (bLw b L xs) rfl rfl rfl rfl rfl rfl rfl ⟨rfl, rfl, rfl⟩ ⟨Nat.le_of_ble_eq_true rfl, Nat.le_of_ble_eq_true rfl⟩ hk0 (mKeeps _ o A J _ _ _ (Or.inl rfl)) ?_
      rintro _ _ (⟨s', k', hs', hk2', hk8', ex', ey', rfl, ⟨e1', rfl⟩ | ⟨e1', rfl⟩⟩ | ⟨q1', rfl, rfl⟩)
      · refine zv_world (wXR _ _ _ _ _ _).symm ?_
        iterate 2 (refine zv_step (bLw b L xs) rfl rfl trivial ?_)
        have es : s = s' := (nI_eq (by omega) (by omega)).mp (ex.symm.trans ex')
        subst es
        have ek : k = k' := (nI_eq (by omega) (by omega)).mp (ey.symm.trans ey')
        subst ek
        have hko := keeps_ok hkp hs (show k < 10 by omega) (on := Int32.ofInt 0) (Or.inl rfl)
        exact kk _ _ _ _ _ _ _ _ (Nat.le_add_right _ _) (Nat.le_add_right _ _) ⟨⟨⟨cI_ks hC _, mI_b hM (Or.inr rfl) (Or.inl rfl), hko.1, by
          obtain ⟨m9, a9, b9, c9⟩ := hfn
          exact ⟨m9, a9, b9, fun v hv => by rw [updA_ne _ _ (by decide)]; exact c9 v hv⟩⟩, u, l, hC.1, hC.2.2.2.1, keeps_SS hC.1 hSS hk2 hk8 _ _⟩, XS_rw hI.2 hC.1 hC.2.1 rfl (fun i _ h9 => updA_ne _ _ (by omega)) (fun r hr j _ => by rw [updA_ne _ _ (by omega)])⟩
      · refine zv_world (wXR _ _ _ _ _ _).symm ?_
        exfalso
        have es : s = s' := (nI_eq (by omega) (by omega)).mp (ex.symm.trans ex')
        subst es
        have ek : k = k' := (nI_eq (by omega) (by omega)).mp (ey.symm.trans ey')
        subst ek
        have hko := keeps_ok hkp hs (show k < 10 by omega) (on := Int32.ofInt 0) (Or.inl rfl)
        exact absurd (hko.2.mp e1) e1'
      · refine zv_world (wXR _ _ _ _ _ _).symm ?_
        exfalso
        exact q1' ⟨by rw [ex, nI_toInt (by omega)]; omega, by rw [ey, nI_toInt (by omega)]; omega⟩
    · refine zv_world (wXR _ _ _ _ _ _) ?_
      iterate 6 (refine zv_step (bLw b L xs) rfl rfl trivial ?_)
      refine zv_sld rfl (show vp_in (nI i + Int32.ofInt 1) L from ix6 hi hL (k := 1) (by decide)) ?_
      iterate 4 (refine zv_step (bLw b L xs) rfl rfl trivial ?_)
      refine zv_sld rfl (show vp_in (nI i + Int32.ofInt 2) L from ix6 hi hL (k := 2) (by decide)) ?_
      iterate 4 (refine zv_step (bLw b L xs) rfl rfl trivial ?_)
      refine zv_sld rfl (show vp_in (nI i + Int32.ofInt 3) L from ix6 hi hL (k := 3) (by decide)) ?_
      iterate 1 (refine zv_step (bLw b L xs) rfl rfl trivial ?_)
      refine zv_ift (h478) ?_
      iterate 1 (refine zv_step (bLw b L xs) rfl rfl trivial ?_)
      refine zv_V3 (bLw b L xs) rfl rfl rfl rfl rfl rfl rfl ⟨rfl, rfl, rfl⟩ ⟨Nat.le_of_ble_eq_true rfl, Nat.le_of_ble_eq_true rfl⟩ hk0 (mKeeps _ o A J _ _ _ (Or.inl rfl)) ?_
      rintro _ _ (⟨s', k', hs', hk2', hk8', ex', ey', rfl, ⟨e1', rfl⟩ | ⟨e1', rfl⟩⟩ | ⟨q1', rfl, rfl⟩)
      · refine zv_world (wXR _ _ _ _ _ _).symm ?_
        exfalso
        have es : s = s' := (nI_eq (by omega) (by omega)).mp (ex.symm.trans ex')
        subst es
        have ek : k = k' := (nI_eq (by omega) (by omega)).mp (ey.symm.trans ey')
        subst ek
        have hko := keeps_ok hkp hs (show k < 10 by omega) (on := Int32.ofInt 0) (Or.inl rfl)
        exact absurd (hko.2.mpr e1') e1
      · refine zv_world (wXR _ _ _ _ _ _).symm ?_
        iterate 2 (refine zv_step (bLw b L xs) rfl rfl trivial ?_)
        have es : s = s' := (nI_eq (by omega) (by omega)).mp (ex.symm.trans ex')
        subst es
        have ek : k = k' := (nI_eq (by omega) (by omega)).mp (ey.symm.trans ey')
        subst ek
        have hko := keeps_ok hkp hs (show k < 10 by omega) (on := Int32.ofInt 0) (Or.inl rfl)
        exact kk _ _ _ _ _ _ _ _ (Nat.le_add_right _ _) (Nat.le_add_right _ _) ⟨⟨⟨cI_ks hC _, mI_b hM (Or.inr rfl) (Or.inl rfl), hko.1, by
          obtain ⟨m9, a9, b9, c9⟩ := hfn
          exact ⟨m9, a9, b9, fun v hv => by rw [updA_ne _ _ (by decide)]; exact c9 v hv⟩⟩, u, l, hC.1, hC.2.2.2.1, keeps_SS hC.1 hSS hk2 hk8 _ _⟩, XS_rw hI.2 hC.1 hC.2.1 rfl (fun i _ h9 => updA_ne _ _ (by omega)) (fun r hr j _ => by rw [updA_ne _ _ (by omega)])⟩
      · refine zv_world (wXR _ _ _ _ _ _).symm ?_
        exfalso
        exact q1' ⟨by rw [ex, nI_toInt (by omega)]; omega, by rw [ey, nI_toInt (by omega)]; omega⟩
    · refine zv_world (wXR _ _ _ _ _ _) ?_
      iterate 6 (refine zv_step (bLw b L xs) rfl rfl trivial ?_)
      refine zv_sld rfl (show vp_in (nI i + Int32.ofInt 1) L from ix6 hi hL (k := 1) (by decide)) ?_
      iterate 4 (refine zv_step (bLw b L xs) rfl rfl trivial ?_)
      refine zv_sld rfl (show vp_in (nI i + Int32.ofInt 2) L from ix6 hi hL (k := 2) (by decide)) ?_
      iterate 4 (refine zv_step (bLw b L xs) rfl rfl trivial ?_)
      refine zv_sld rfl (show vp_in (nI i + Int32.ofInt 3) L from ix6 hi hL (k := 3) (by decide)) ?_
      iterate 1 (refine zv_step (bLw b L xs) rfl rfl trivial ?_)
      refine zv_ift (h478) ?_
      iterate 1 (refine zv_step (bLw b L xs) rfl rfl trivial ?_)
      refine zv_V3 (bLw b L xs) rfl rfl rfl rfl rfl rfl rfl ⟨rfl, rfl, rfl⟩ ⟨Nat.le_of_ble_eq_true rfl, Nat.le_of_ble_eq_true rfl⟩ hk0 (mKeeps _ o A J _ _ _ (Or.inl rfl)) ?_
      rintro _ _ (⟨s', k', hs', hk2', hk8', ex', ey', rfl, ⟨e1', rfl⟩ | ⟨e1', rfl⟩⟩ | ⟨q1', rfl, rfl⟩)
      · refine zv_world (wXR _ _ _ _ _ _).symm ?_
        exfalso
        exact q1 ⟨by rw [ex', nI_toInt (by omega)]; omega, by rw [ey', nI_toInt (by omega)]; omega⟩
      · refine zv_world (wXR _ _ _ _ _ _).symm ?_
        exfalso
        exact q1 ⟨by rw [ex', nI_toInt (by omega)]; omega, by rw [ey', nI_toInt (by omega)]; omega⟩
      · refine zv_world (wXR _ _ _ _ _ _).symm ?_
        iterate 2 (refine zv_step (bLw b L xs) rfl rfl trivial ?_)
        exact kk _ _ _ _ _ _ _ _ (Nat.le_add_right _ _) (Nat.le_add_right _ _) hI
  · iterate 2 (refine zv_step (bLw b L xs) rfl rfl trivial ?_)
    refine zv_V3 (bLw b L xs) rfl rfl rfl rfl rfl rfl rfl ⟨rfl, rfl, rfl⟩ ⟨Nat.le_of_ble_eq_true rfl, Nat.le_of_ble_eq_true rfl⟩ hk0 (cKeeps O P Y (gR o A J) _ _ _) ?_
    rintro _ _ hk9
    rcases keepsC hk9 with ⟨s, k, hs, hk2, hk8, ex, ey, rfl, ⟨e1, rfl⟩ | ⟨e1, rfl⟩⟩ | ⟨q1, rfl, rfl⟩
    · refine zv_world (wXR _ _ _ _ _ _) ?_
      iterate 6 (refine zv_step (bLw b L xs) rfl rfl trivial ?_)
      refine zv_sld rfl (show vp_in (nI i + Int32.ofInt 1) L from ix6 hi hL (k := 1) (by decide)) ?_
      iterate 4 (refine zv_step (bLw b L xs) rfl rfl trivial ?_)
      refine zv_sld rfl (show vp_in (nI i + Int32.ofInt 2) L from ix6 hi hL (k := 2) (by decide)) ?_
      iterate 4 (refine zv_step (bLw b L xs) rfl rfl trivial ?_)
      refine zv_sld rfl (show vp_in (nI i + Int32.ofInt 3) L from ix6 hi hL (k := 3) (by decide)) ?_
      iterate 1 (refine zv_step (bLw b L xs) rfl rfl trivial ?_)
      refine zv_iff (h478) ?_
      iterate 2 (refine zv_step (bLw b L xs) rfl rfl trivial ?_)
      refine zv_V3 (bLw b L xs) rfl rfl rfl rfl rfl rfl rfl ⟨rfl, rfl, rfl⟩ ⟨Nat.le_of_ble_eq_true rfl, Nat.le_of_ble_eq_true rfl⟩ hk0 (mKeeps _ o A J _ _ _ (Or.inr rfl)) ?_
      rintro _ _ (⟨s', k', hs', hk2', hk8', ex', ey', rfl, ⟨e1', rfl⟩ | ⟨e1', rfl⟩⟩ | ⟨q1', rfl, rfl⟩)
      · refine zv_world (wXR _ _ _ _ _ _).symm ?_
        iterate 2 (refine zv_step (bLw b L xs) rfl rfl trivial ?_)
        have es : s = s' := (nI_eq (by omega) (by omega)).mp (ex.symm.trans ex')
        subst es
        have ek : k = k' := (nI_eq (by omega) (by omega)).mp (ey.symm.trans ey')
        subst ek
        have hko := keeps_ok hkp hs (show k < 10 by omega) (on := Int32.ofInt 1) (Or.inr rfl)
        exact kk _ _ _ _ _ _ _ _ (Nat.le_add_right _ _) (Nat.le_add_right _ _) ⟨⟨⟨cI_ks hC _, mI_b hM (Or.inr rfl) (Or.inr rfl), hko.1, by
          obtain ⟨m9, a9, b9, c9⟩ := hfn
          exact ⟨m9, a9, b9, fun v hv => by rw [updA_ne _ _ (by decide)]; exact c9 v hv⟩⟩, u, l, hC.1, hC.2.2.2.1, keeps_SS hC.1 hSS hk2 hk8 _ _⟩, XS_rw hI.2 hC.1 hC.2.1 rfl (fun i _ h9 => updA_ne _ _ (by omega)) (fun r hr j _ => by rw [updA_ne _ _ (by omega)])⟩
      · refine zv_world (wXR _ _ _ _ _ _).symm ?_
        exfalso
        have es : s = s' := (nI_eq (by omega) (by omega)).mp (ex.symm.trans ex')
        subst es
        have ek : k = k' := (nI_eq (by omega) (by omega)).mp (ey.symm.trans ey')
        subst ek
        have hko := keeps_ok hkp hs (show k < 10 by omega) (on := Int32.ofInt 1) (Or.inr rfl)
        exact absurd (hko.2.mp e1) e1'
      · refine zv_world (wXR _ _ _ _ _ _).symm ?_
        exfalso
        exact q1' ⟨by rw [ex, nI_toInt (by omega)]; omega, by rw [ey, nI_toInt (by omega)]; omega⟩
    · refine zv_world (wXR _ _ _ _ _ _) ?_
      iterate 6 (refine zv_step (bLw b L xs) rfl rfl trivial ?_)
      refine zv_sld rfl (show vp_in (nI i + Int32.ofInt 1) L from ix6 hi hL (k := 1) (by decide)) ?_
      iterate 4 (refine zv_step (bLw b L xs) rfl rfl trivial ?_)
      refine zv_sld rfl (show vp_in (nI i + Int32.ofInt 2) L from ix6 hi hL (k := 2) (by decide)) ?_
      iterate 4 (refine zv_step (bLw b L xs) rfl rfl trivial ?_)
      refine zv_sld rfl (show vp_in (nI i + Int32.ofInt 3) L from ix6 hi hL (k := 3) (by decide)) ?_
      iterate 1 (refine zv_step (bLw b L xs) rfl rfl trivial ?_)
      refine zv_iff (h478) ?_
      iterate 2 (refine zv_step (bLw b L xs) rfl rfl trivial ?_)
      refine zv_V3 (bLw b L xs) rfl rfl rfl rfl rfl rfl rfl ⟨rfl, rfl, rfl⟩ ⟨Nat.le_of_ble_eq_true rfl, Nat.le_of_ble_eq_true rfl⟩ hk0 (mKeeps _ o A J _ _ _ (Or.inr rfl)) ?_
      rintro _ _ (⟨s', k', hs', hk2', hk8', ex', ey', rfl, ⟨e1', rfl⟩ | ⟨e1', rfl⟩⟩ | ⟨q1', rfl, rfl⟩)
      · refine zv_world (wXR _ _ _ _ _ _).symm ?_
        exfalso
        have es : s = s' := (nI_eq (by omega) (by omega)).mp (ex.symm.trans ex')
        subst es
        have ek : k = k' := (nI_eq (by omega) (by omega)).mp (ey.symm.trans ey')
        subst ek
        have hko := keeps_ok hkp hs (show k < 10 by omega) (on := Int32.ofInt 1) (Or.inr rfl)
        exact absurd (hko.2.mpr e1') e1
      · refine zv_world (wXR _ _ _ _ _ _).symm ?_
        iterate 2 (refine zv_step (bLw b L xs) rfl rfl trivial ?_)
        have es : s = s' := (nI_eq (by omega) (by omega)).mp (ex.symm.trans ex')
        subst es
        have ek : k = k' := (nI_eq (by omega) (by omega)).mp (ey.symm.trans ey')
        subst ek
        have hko := keeps_ok hkp hs (show k < 10 by omega) (on := Int32.ofInt 1) (Or.inr rfl)
        exact kk _ _ _ _ _ _ _ _ (Nat.le_add_right _ _) (Nat.le_add_right _ _) ⟨⟨⟨cI_ks hC _, mI_b hM (Or.inr rfl) (Or.inr rfl), hko.1, by
          obtain ⟨m9, a9, b9, c9⟩ := hfn
          exact ⟨m9, a9, b9, fun v hv => by rw [updA_ne _ _ (by decide)]; exact c9 v hv⟩⟩, u, l, hC.1, hC.2.2.2.1, keeps_SS hC.1 hSS hk2 hk8 _ _⟩, XS_rw hI.2 hC.1 hC.2.1 rfl (fun i _ h9 => updA_ne _ _ (by omega)) (fun r hr j _ => by rw [updA_ne _ _ (by omega)])⟩
      · refine zv_world (wXR _ _ _ _ _ _).symm ?_
        exfalso
        exact q1' ⟨by rw [ex, nI_toInt (by omega)]; omega, by rw [ey, nI_toInt (by omega)]; omega⟩
    · refine zv_world (wXR _ _ _ _ _ _) ?_
      iterate 6 (refine zv_step (bLw b L xs) rfl rfl trivial ?_)
      refine zv_sld rfl (show vp_in (nI i + Int32.ofInt 1) L from ix6 hi hL (k := 1) (by decide)) ?_
      iterate 4 (refine zv_step (bLw b L xs) rfl rfl trivial ?_)
      refine zv_sld rfl (show vp_in (nI i + Int32.ofInt 2) L from ix6 hi hL (k := 2) (by decide)) ?_
      iterate 4 (refine zv_step (bLw b L xs) rfl rfl trivial ?_)
      refine zv_sld rfl (show vp_in (nI i + Int32.ofInt 3) L from ix6 hi hL (k := 3) (by decide)) ?_
      iterate 1 (refine zv_step (bLw b L xs) rfl rfl trivial ?_)
      refine zv_iff (h478) ?_
      iterate 2 (refine zv_step (bLw b L xs) rfl rfl trivial ?_)
      refine zv_V3 (bLw b L xs) rfl rfl rfl rfl rfl rfl rfl ⟨rfl, rfl, rfl⟩ ⟨Nat.le_of_ble_eq_true rfl, Nat.le_of_ble_eq_true rfl⟩ hk0 (mKeeps _ o A J _ _ _ (Or.inr rfl)) ?_
      rintro _ _ (⟨s', k', hs', hk2', hk8', ex', ey', rfl, ⟨e1', rfl⟩ | ⟨e1', rfl⟩⟩ | ⟨q1', rfl, rfl⟩)
      · refine zv_world (wXR _ _ _ _ _ _).symm ?_
        exfalso
        exact q1 ⟨by rw [ex', nI_toInt (by omega)]; omega, by rw [ey', nI_toInt (by omega)]; omega⟩
      · refine zv_world (wXR _ _ _ _ _ _).symm ?_
        exfalso
        exact q1 ⟨by rw [ex', nI_toInt (by omega)]; omega, by rw [ey', nI_toInt (by omega)]; omega⟩
      · refine zv_world (wXR _ _ _ _ _ _).symm ?_
        iterate 2 (refine zv_step (bLw b L xs) rfl rfl trivial ?_)
        exact kk _ _ _ _ _ _ _ _ (Nat.le_add_right _ _) (Nat.le_add_right _ _) hI
set_option maxHeartbeats 10000000 in
set_option maxRecDepth 100000 in
theorem lop_words {b L : Nat} {xs : Nat → Int32} {i kc ks : Nat} (hi : i + 6 ≤ L) (hL : L ≤ 3072) (hk : kc + 1 ≤ room_1.cells ∧ ks + 6 ≤ room_1.slots) {O : Nat → Int32} {P : Nat → Nat → Int32} {Y : Nat → Nat → Int64} {o : Nat → Int32} {A : Nat → Nat → Int32} {J : Nat → Nat → Int64} (hI : LI5 O P Y o A) {Q : Option Value → zW → Prop} (kk : ∀ (kc' ks' : Nat) (O : Nat → Int32) (P : Nat → Nat → Int32) (Y : Nat → Nat → Int64) (o : Nat → Int32) (A : Nat → Nat → Int32) (J : Nat → Nat → Int64), kc' ≤ kc + 1 → ks' ≤ ks + 6 → LI5 O P Y o A → zV (zLw b L xs) true 0 kc' ks' 1580 (zlw i) [] (wX O P Y (gR o A J)) Q) : zV (zLw b L xs) true 0 kc ks 524 (zlw i) [] (wX O P Y (gR o A J)) Q := by
  obtain ⟨u, l, d, d2, hC, hM, hkp, hfn, hSS⟩ := LI2_open hI.1
  have hk0 : kc ≤ room_1.cells ∧ ks ≤ room_1.slots := ⟨by omega, by omega⟩
  have hu1 : (O 1).toInt ≤ 120 := by rw [hC.2.1, nI_toInt (by have := hC.1; omega)]; have := hC.1; omega
  iterate 5 (refine zv_step (bLw b L xs) rfl rfl trivial ?_)
  refine zv_sld rfl (show vp_in (nI i + Int32.ofInt 1) L from ix6 hi hL (k := 1) (by decide)) ?_
  iterate 4 (refine zv_step (bLw b L xs) rfl rfl trivial ?_)
  refine zv_sld rfl (show vp_in (nI i + Int32.ofInt 2) L from ix6 hi hL (k := 2) (by decide)) ?_
  refine zv_V2 (bLw b L xs) rfl rfl rfl rfl rfl rfl rfl ⟨rfl, rfl, rfl⟩ ⟨Nat.le_of_ble_eq_true rfl, Nat.le_of_ble_eq_true rfl⟩ hk0 (cWordsT O P Y (gR o A J) hC.1 hC.2.1 hC.2.2.1 hC.2.2.2.1 hC.2.2.2.2.1 _ _) ?_
  rintro _ _ ⟨O', P', R, rfl, rfl, q⟩
  have hc := cI_sp hC (spT_W hC.2.2.2.1 hC.2.2.2.2.1 q)
  have ce := cE_sp q
  have dc := c12_sp q
  refine zv_world (wXR _ _ _ _ _ _) ?_
  iterate 6 (refine zv_step (bLw b L xs) rfl rfl trivial ?_)
  refine zv_sld rfl (show vp_in (nI i + Int32.ofInt 1) L from ix6 hi hL (k := 1) (by decide)) ?_
  iterate 4 (refine zv_step (bLw b L xs) rfl rfl trivial ?_)
  refine zv_sld rfl (show vp_in (nI i + Int32.ofInt 2) L from ix6 hi hL (k := 2) (by decide)) ?_
  refine zv_V2 (bLw b L xs) rfl rfl rfl rfl rfl rfl rfl ⟨rfl, rfl, rfl⟩ ⟨Nat.le_of_ble_eq_true rfl, Nat.le_of_ble_eq_true rfl⟩ hk0 (mWords _ o A J hM.1 hM.2.1 hM.2.2.1 _ _) ?_
  rintro _ _ ⟨rfl, v1, rfl⟩
  have hm := mI_id hM
  have me := mE_id u o A
  refine zv_world (wXR _ _ _ _ _ _).symm ?_
  iterate 2 (refine zv_step (bLw b L xs) rfl rfl trivial ?_)
  exact kk _ _ _ _ _ _ _ _ (Nat.le_add_right _ _) (Nat.le_add_right _ _) (LI5_fr (d2 := d2) hI hC hSS hc hm ce me dc)
set_option maxHeartbeats 10000000 in
set_option maxRecDepth 100000 in
theorem lop_word {b L : Nat} {xs : Nat → Int32} {i kc ks : Nat} (hi : i + 6 ≤ L) (hL : L ≤ 3072) (hk : kc + 1 ≤ room_1.cells ∧ ks + 6 ≤ room_1.slots) {O : Nat → Int32} {P : Nat → Nat → Int32} {Y : Nat → Nat → Int64} {o : Nat → Int32} {A : Nat → Nat → Int32} {J : Nat → Nat → Int64} (hI : LI5 O P Y o A) {Q : Option Value → zW → Prop} (kk : ∀ (kc' ks' : Nat) (O : Nat → Int32) (P : Nat → Nat → Int32) (Y : Nat → Nat → Int64) (o : Nat → Int32) (A : Nat → Nat → Int32) (J : Nat → Nat → Int64), kc' ≤ kc + 1 → ks' ≤ ks + 6 → LI5 O P Y o A → zV (zLw b L xs) true 0 kc' ks' 1580 (zlw i) [] (wX O P Y (gR o A J)) Q) : zV (zLw b L xs) true 0 kc ks 561 (zlw i) [] (wX O P Y (gR o A J)) Q := by
  obtain ⟨u, l, d, d2, hC, hM, hkp, hfn, hSS⟩ := LI2_open hI.1
  have hk0 : kc ≤ room_1.cells ∧ ks ≤ room_1.slots := ⟨by omega, by omega⟩
  have hu1 : (O 1).toInt ≤ 120 := by rw [hC.2.1, nI_toInt (by have := hC.1; omega)]; have := hC.1; omega
  iterate 5 (refine zv_step (bLw b L xs) rfl rfl trivial ?_)
  refine zv_sld rfl (show vp_in (nI i + Int32.ofInt 1) L from ix6 hi hL (k := 1) (by decide)) ?_
  iterate 4 (refine zv_step (bLw b L xs) rfl rfl trivial ?_)
  refine zv_sld rfl (show vp_in (nI i + Int32.ofInt 2) L from ix6 hi hL (k := 2) (by decide)) ?_
  iterate 4 (refine zv_step (bLw b L xs) rfl rfl trivial ?_)
  refine zv_sld rfl (show vp_in (nI i + Int32.ofInt 3) L from ix6 hi hL (k := 3) (by decide)) ?_
  refine zv_V3 (bLw b L xs) rfl rfl rfl rfl rfl rfl rfl ⟨rfl, rfl, rfl⟩ ⟨Nat.le_of_ble_eq_true rfl, Nat.le_of_ble_eq_true rfl⟩ hk0 (cWordT O P Y (gR o A J) hC.1 hC.2.1 hC.2.2.1 hC.2.2.2.1 hC.2.2.2.2.1 _ _ _) ?_
  rintro _ _ ⟨O', P', R, rfl, rfl, q⟩
  have hc := cI_sp hC (spT_W hC.2.2.2.1 hC.2.2.2.2.1 q)
  have ce := cE_sp q
  have dc := c12_sp q
  refine zv_world (wXR _ _ _ _ _ _) ?_
  iterate 6 (refine zv_step (bLw b L xs) rfl rfl trivial ?_)
  refine zv_sld rfl (show vp_in (nI i + Int32.ofInt 1) L from ix6 hi hL (k := 1) (by decide)) ?_
  iterate 4 (refine zv_step (bLw b L xs) rfl rfl trivial ?_)
  refine zv_sld rfl (show vp_in (nI i + Int32.ofInt 2) L from ix6 hi hL (k := 2) (by decide)) ?_
  iterate 4 (refine zv_step (bLw b L xs) rfl rfl trivial ?_)
  refine zv_sld rfl (show vp_in (nI i + Int32.ofInt 3) L from ix6 hi hL (k := 3) (by decide)) ?_
  refine zv_V3 (bLw b L xs) rfl rfl rfl rfl rfl rfl rfl ⟨rfl, rfl, rfl⟩ ⟨Nat.le_of_ble_eq_true rfl, Nat.le_of_ble_eq_true rfl⟩ hk0 (mWord _ o A J hM.1 hM.2.1 hM.2.2.1 hM.2.2.2.1 _ _ _) ?_
  rintro _ _ ⟨o1, A1, R1, rfl, rfl, qm⟩
  have hm := mI_q hM qm
  have me := mE_q u qm
  refine zv_world (wXR _ _ _ _ _ _).symm ?_
  iterate 2 (refine zv_step (bLw b L xs) rfl rfl trivial ?_)
  exact kk _ _ _ _ _ _ _ _ (Nat.le_add_right _ _) (Nat.le_add_right _ _) (LI5_fr (d2 := d2) hI hC hSS hc hm ce me dc)
set_option maxHeartbeats 10000000 in
set_option maxRecDepth 100000 in
theorem lop_sound {b L : Nat} {xs : Nat → Int32} {i kc ks : Nat} (hi : i + 6 ≤ L) (hL : L ≤ 3072) (hk : kc + 1 ≤ room_1.cells ∧ ks + 6 ≤ room_1.slots) {O : Nat → Int32} {P : Nat → Nat → Int32} {Y : Nat → Nat → Int64} {o : Nat → Int32} {A : Nat → Nat → Int32} {J : Nat → Nat → Int64} (hI : LI5 O P Y o A) {Q : Option Value → zW → Prop} (kk : ∀ (kc' ks' : Nat) (O : Nat → Int32) (P : Nat → Nat → Int32) (Y : Nat → Nat → Int64) (o : Nat → Int32) (A : Nat → Nat → Int32) (J : Nat → Nat → Int64), kc' ≤ kc + 1 → ks' ≤ ks + 6 → LI5 O P Y o A → zV (zLw b L xs) true 0 kc' ks' 1580 (zlw i) [] (wX O P Y (gR o A J)) Q) : zV (zLw b L xs) true 0 kc ks 610 (zlw i) [] (wX O P Y (gR o A J)) Q := by
  obtain ⟨u, l, d, d2, hC, hM, hkp, hfn, hSS⟩ := LI2_open hI.1
  have hk0 : kc ≤ room_1.cells ∧ ks ≤ room_1.slots := ⟨by omega, by omega⟩
  have hu1 : (O 1).toInt ≤ 120 := by rw [hC.2.1, nI_toInt (by have := hC.1; omega)]; have := hC.1; omega
  iterate 5 (refine zv_step (bLw b L xs) rfl rfl trivial ?_)
  refine zv_sld rfl (show vp_in (nI i + Int32.ofInt 1) L from ix6 hi hL (k := 1) (by decide)) ?_
  iterate 4 (refine zv_step (bLw b L xs) rfl rfl trivial ?_)
  refine zv_sld rfl (show vp_in (nI i + Int32.ofInt 2) L from ix6 hi hL (k := 2) (by decide)) ?_
  iterate 4 (refine zv_step (bLw b L xs) rfl rfl trivial ?_)
  refine zv_sld rfl (show vp_in (nI i + Int32.ofInt 3) L from ix6 hi hL (k := 3) (by decide)) ?_
  refine zv_V3 (bLw b L xs) rfl rfl rfl rfl rfl rfl rfl ⟨rfl, rfl, rfl⟩ ⟨Nat.le_of_ble_eq_true rfl, Nat.le_of_ble_eq_true rfl⟩ hk0 (cSoundT O P Y (gR o A J) hC.1 hC.2.1 hC.2.2.1 hC.2.2.2.1 hC.2.2.2.2.1 _ _ _) ?_
  rintro _ _ ⟨O', P', R, rfl, rfl, q⟩
  have hc := cI_sp hC (spT_W hC.2.2.2.1 hC.2.2.2.2.1 q)
  have ce := cE_sp q
  have dc := c12_sp q
  refine zv_world (wXR _ _ _ _ _ _) ?_
  iterate 6 (refine zv_step (bLw b L xs) rfl rfl trivial ?_)
  refine zv_sld rfl (show vp_in (nI i + Int32.ofInt 1) L from ix6 hi hL (k := 1) (by decide)) ?_
  iterate 4 (refine zv_step (bLw b L xs) rfl rfl trivial ?_)
  refine zv_sld rfl (show vp_in (nI i + Int32.ofInt 2) L from ix6 hi hL (k := 2) (by decide)) ?_
  iterate 4 (refine zv_step (bLw b L xs) rfl rfl trivial ?_)
  refine zv_sld rfl (show vp_in (nI i + Int32.ofInt 3) L from ix6 hi hL (k := 3) (by decide)) ?_
  refine zv_V3 (bLw b L xs) rfl rfl rfl rfl rfl rfl rfl ⟨rfl, rfl, rfl⟩ ⟨Nat.le_of_ble_eq_true rfl, Nat.le_of_ble_eq_true rfl⟩ hk0 (mSound _ o A J hM.1 hM.2.1 hM.2.2.1 hM.2.2.2.1 _ _ _) ?_
  rintro _ _ ⟨o1, A1, R1, rfl, rfl, qm⟩
  have hm := mI_q hM qm
  have me := mE_q u qm
  refine zv_world (wXR _ _ _ _ _ _).symm ?_
  iterate 2 (refine zv_step (bLw b L xs) rfl rfl trivial ?_)
  exact kk _ _ _ _ _ _ _ _ (Nat.le_add_right _ _) (Nat.le_add_right _ _) (LI5_fr (d2 := d2) hI hC hSS hc hm ce me dc)
set_option maxHeartbeats 10000000 in
set_option maxRecDepth 100000 in
theorem lop_clear {b L : Nat} {xs : Nat → Int32} {i kc ks : Nat} (hi : i + 6 ≤ L) (hL : L ≤ 3072) (hk : kc + 1 ≤ room_1.cells ∧ ks + 6 ≤ room_1.slots) {O : Nat → Int32} {P : Nat → Nat → Int32} {Y : Nat → Nat → Int64} {o : Nat → Int32} {A : Nat → Nat → Int32} {J : Nat → Nat → Int64} (hI : LI5 O P Y o A) {Q : Option Value → zW → Prop} (kk : ∀ (kc' ks' : Nat) (O : Nat → Int32) (P : Nat → Nat → Int32) (Y : Nat → Nat → Int64) (o : Nat → Int32) (A : Nat → Nat → Int32) (J : Nat → Nat → Int64), kc' ≤ kc + 1 → ks' ≤ ks + 6 → LI5 O P Y o A → zV (zLw b L xs) true 0 kc' ks' 1580 (zlw i) [] (wX O P Y (gR o A J)) Q) : zV (zLw b L xs) true 0 kc ks 659 (zlw i) [] (wX O P Y (gR o A J)) Q := by
  obtain ⟨u, l, d, d2, hC, hM, hkp, hfn, hSS⟩ := LI2_open hI.1
  have hk0 : kc ≤ room_1.cells ∧ ks ≤ room_1.slots := ⟨by omega, by omega⟩
  have hu1 : (O 1).toInt ≤ 120 := by rw [hC.2.1, nI_toInt (by have := hC.1; omega)]; have := hC.1; omega
  iterate 5 (refine zv_step (bLw b L xs) rfl rfl trivial ?_)
  refine zv_sld rfl (show vp_in (nI i + Int32.ofInt 1) L from ix6 hi hL (k := 1) (by decide)) ?_
  iterate 4 (refine zv_step (bLw b L xs) rfl rfl trivial ?_)
  refine zv_sld rfl (show vp_in (nI i + Int32.ofInt 2) L from ix6 hi hL (k := 2) (by decide)) ?_
  refine zv_V2 (bLw b L xs) rfl rfl rfl rfl rfl rfl rfl ⟨rfl, rfl, rfl⟩ ⟨Nat.le_of_ble_eq_true rfl, Nat.le_of_ble_eq_true rfl⟩ hk0 (cClear O P Y (gR o A J) _ _) ?_
  rintro _ _ ⟨rfl, v, rfl⟩
  have hc := cI_id hC
  have ce := cE_id O P
  have dc := (rfl : P 12 = P 12)
  refine zv_world (wXR _ _ _ _ _ _) ?_
  iterate 6 (refine zv_step (bLw b L xs) rfl rfl trivial ?_)
  refine zv_sld rfl (show vp_in (nI i + Int32.ofInt 1) L from ix6 hi hL (k := 1) (by decide)) ?_
  iterate 4 (refine zv_step (bLw b L xs) rfl rfl trivial ?_)
  refine zv_sld rfl (show vp_in (nI i + Int32.ofInt 2) L from ix6 hi hL (k := 2) (by decide)) ?_
  refine zv_V2 (bLw b L xs) rfl rfl rfl rfl rfl rfl rfl ⟨rfl, rfl, rfl⟩ ⟨Nat.le_of_ble_eq_true rfl, Nat.le_of_ble_eq_true rfl⟩ hk0 (mClear _ o A J hM.2.2.2.1 _ _) ?_
  rintro _ _ ⟨o1, A1, R1, rfl, rfl, qm⟩
  have hm := mI_cl hM qm
  have me := mE_cl hM.1 qm
  refine zv_world (wXR _ _ _ _ _ _).symm ?_
  iterate 2 (refine zv_step (bLw b L xs) rfl rfl trivial ?_)
  exact kk _ _ _ _ _ _ _ _ (Nat.le_add_right _ _) (Nat.le_add_right _ _) (LI5_fr (d2 := d2) hI hC hSS hc hm ce me dc)
set_option maxHeartbeats 10000000 in
set_option maxRecDepth 100000 in
theorem lop_hear {b L : Nat} {xs : Nat → Int32} {i kc ks : Nat} (hi : i + 6 ≤ L) (hL : L ≤ 3072) (hk : kc + 1 ≤ room_1.cells ∧ ks + 6 ≤ room_1.slots) {O : Nat → Int32} {P : Nat → Nat → Int32} {Y : Nat → Nat → Int64} {o : Nat → Int32} {A : Nat → Nat → Int32} {J : Nat → Nat → Int64} (hI : LI5 O P Y o A) {Q : Option Value → zW → Prop} (kk : ∀ (kc' ks' : Nat) (O : Nat → Int32) (P : Nat → Nat → Int32) (Y : Nat → Nat → Int64) (o : Nat → Int32) (A : Nat → Nat → Int32) (J : Nat → Nat → Int64), kc' ≤ kc + 1 → ks' ≤ ks + 6 → LI5 O P Y o A → zV (zLw b L xs) true 0 kc' ks' 1580 (zlw i) [] (wX O P Y (gR o A J)) Q) : zV (zLw b L xs) true 0 kc ks 696 (zlw i) [] (wX O P Y (gR o A J)) Q := by
  obtain ⟨u, l, d, d2, hC, hM, hkp, hfn, hSS⟩ := LI2_open hI.1
  have hk0 : kc ≤ room_1.cells ∧ ks ≤ room_1.slots := ⟨by omega, by omega⟩
  have hu1 : (O 1).toInt ≤ 120 := by rw [hC.2.1, nI_toInt (by have := hC.1; omega)]; have := hC.1; omega
  refine zv_world (show wX O P Y (gR o A J) = wX (upd O 9 (nI l)) P Y (gR o A J) by rw [upd_same hC.2.2.2.2.1]) ?_
  iterate 5 (refine zv_step (bLw b L xs) rfl rfl trivial ?_)
  refine zv_sld rfl (show vp_in (nI i + Int32.ofInt 1) L from ix6 hi hL (k := 1) (by decide)) ?_
  iterate 4 (refine zv_step (bLw b L xs) rfl rfl trivial ?_)
  refine zv_sld rfl (show vp_in (nI i + Int32.ofInt 2) L from ix6 hi hL (k := 2) (by decide)) ?_
  refine zv_V2 (bLw b L xs) rfl rfl rfl rfl rfl rfl rfl ⟨rfl, rfl, rfl⟩ ⟨Nat.le_of_ble_eq_true rfl, Nat.le_of_ble_eq_true rfl⟩ hk0 (cHearX O P Y (gR o A J) hC.2.2.2.1 _ _) ?_
  rintro _ _ ⟨R, rfl, ⟨rfl, q1, rfl⟩ | ⟨n, n1, n5, ex, ha, ⟨rfl, q1, rfl⟩ | ⟨rfl, q1, rfl⟩⟩⟩
  · refine zv_world (show wX (upd O 9 (nI l)) P Y (gR o A J) = wX O P Y (gR o A J) by rw [upd_same hC.2.2.2.2.1]) ?_
    refine zv_world (wXR _ _ _ _ _ _) ?_
    refine zv_world (show wR _ o A J = wR _ (upd o 10 (nI l)) A J by rw [upd_same hM.2.2.2.2.2.1]) ?_
    iterate 6 (refine zv_step (bLw b L xs) rfl rfl trivial ?_)
    refine zv_sld rfl (show vp_in (nI i + Int32.ofInt 1) L from ix6 hi hL (k := 1) (by decide)) ?_
    iterate 4 (refine zv_step (bLw b L xs) rfl rfl trivial ?_)
    refine zv_sld rfl (show vp_in (nI i + Int32.ofInt 2) L from ix6 hi hL (k := 2) (by decide)) ?_
    refine zv_V2 (bLw b L xs) rfl rfl rfl rfl rfl rfl rfl ⟨rfl, rfl, rfl⟩ ⟨Nat.le_of_ble_eq_true rfl, Nat.le_of_ble_eq_true rfl⟩ hk0 (mHearX _ o A J hM.2.2.2.2.1 _ _) ?_
    rintro _ _ ⟨R', rfl, ⟨rfl, p1, rfl⟩ | ⟨n', n1', n5', ex', ha', ⟨rfl, p1, rfl⟩ | ⟨rfl, p1, rfl⟩⟩⟩
    · refine zv_world (show wR _ (upd o 10 (nI l)) A J = wR _ o A J by rw [upd_same hM.2.2.2.2.2.1]) ?_
      refine zv_world (wXR _ _ _ _ _ _).symm ?_
      iterate 2 (refine zv_step (bLw b L xs) rfl rfl trivial ?_)
      exact kk _ _ _ _ _ _ _ _ (Nat.le_add_right _ _) (Nat.le_add_right _ _) (hI)
    · refine zv_world (show wR _ (upd o 10 (nI l)) A J = wR _ o A J by rw [upd_same hM.2.2.2.2.2.1]) ?_
      refine zv_world (wXR _ _ _ _ _ _).symm ?_
      exfalso
      exact q1 ⟨n', n1', n5', ex', ha'⟩
    · refine zv_world (wXR _ _ _ _ _ _).symm ?_
      exfalso
      exact q1 ⟨n', n1', n5', ex', ha'⟩
  · refine zv_world (show wX (upd O 9 (nI l)) P Y (gR o A J) = wX O P Y (gR o A J) by rw [upd_same hC.2.2.2.2.1]) ?_
    refine zv_world (wXR _ _ _ _ _ _) ?_
    refine zv_world (show wR _ o A J = wR _ (upd o 10 (nI l)) A J by rw [upd_same hM.2.2.2.2.2.1]) ?_
    iterate 6 (refine zv_step (bLw b L xs) rfl rfl trivial ?_)
    refine zv_sld rfl (show vp_in (nI i + Int32.ofInt 1) L from ix6 hi hL (k := 1) (by decide)) ?_
    iterate 4 (refine zv_step (bLw b L xs) rfl rfl trivial ?_)
    refine zv_sld rfl (show vp_in (nI i + Int32.ofInt 2) L from ix6 hi hL (k := 2) (by decide)) ?_
    refine zv_V2 (bLw b L xs) rfl rfl rfl rfl rfl rfl rfl ⟨rfl, rfl, rfl⟩ ⟨Nat.le_of_ble_eq_true rfl, Nat.le_of_ble_eq_true rfl⟩ hk0 (mHearX _ o A J hM.2.2.2.2.1 _ _) ?_
    rintro _ _ ⟨R', rfl, ⟨rfl, p1, rfl⟩ | ⟨n', n1', n5', ex', ha', ⟨rfl, p1, rfl⟩ | ⟨rfl, p1, rfl⟩⟩⟩
    · refine zv_world (show wR _ (upd o 10 (nI l)) A J = wR _ o A J by rw [upd_same hM.2.2.2.2.2.1]) ?_
      refine zv_world (wXR _ _ _ _ _ _).symm ?_
      exfalso
      exact p1 ⟨n, n1, n5, ex, ha⟩
    · refine zv_world (show wR _ (upd o 10 (nI l)) A J = wR _ o A J by rw [upd_same hM.2.2.2.2.2.1]) ?_
      refine zv_world (wXR _ _ _ _ _ _).symm ?_
      iterate 2 (refine zv_step (bLw b L xs) rfl rfl trivial ?_)
      exact kk _ _ _ _ _ _ _ _ (Nat.le_add_right _ _) (Nat.le_add_right _ _) (hI)
    · refine zv_world (wXR _ _ _ _ _ _).symm ?_
      exfalso
      have en : n = n' := (nI_eq (by omega) (by omega)).mp (ex.symm.trans ex')
      subst en
      omega
  · refine zv_world (wXR _ _ _ _ _ _) ?_
    refine zv_world (show wR _ o A J = wR _ (upd o 10 (nI l)) A J by rw [upd_same hM.2.2.2.2.2.1]) ?_
    iterate 6 (refine zv_step (bLw b L xs) rfl rfl trivial ?_)
    refine zv_sld rfl (show vp_in (nI i + Int32.ofInt 1) L from ix6 hi hL (k := 1) (by decide)) ?_
    iterate 4 (refine zv_step (bLw b L xs) rfl rfl trivial ?_)
    refine zv_sld rfl (show vp_in (nI i + Int32.ofInt 2) L from ix6 hi hL (k := 2) (by decide)) ?_
    refine zv_V2 (bLw b L xs) rfl rfl rfl rfl rfl rfl rfl ⟨rfl, rfl, rfl⟩ ⟨Nat.le_of_ble_eq_true rfl, Nat.le_of_ble_eq_true rfl⟩ hk0 (mHearX _ o A J hM.2.2.2.2.1 _ _) ?_
    rintro _ _ ⟨R', rfl, ⟨rfl, p1, rfl⟩ | ⟨n', n1', n5', ex', ha', ⟨rfl, p1, rfl⟩ | ⟨rfl, p1, rfl⟩⟩⟩
    · refine zv_world (show wR _ (upd o 10 (nI l)) A J = wR _ o A J by rw [upd_same hM.2.2.2.2.2.1]) ?_
      refine zv_world (wXR _ _ _ _ _ _).symm ?_
      exfalso
      exact p1 ⟨n, n1, n5, ex, ha⟩
    · refine zv_world (show wR _ (upd o 10 (nI l)) A J = wR _ o A J by rw [upd_same hM.2.2.2.2.2.1]) ?_
      refine zv_world (wXR _ _ _ _ _ _).symm ?_
      exfalso
      have en : n = n' := (nI_eq (by omega) (by omega)).mp (ex.symm.trans ex')
      subst en
      omega
    · refine zv_world (wXR _ _ _ _ _ _).symm ?_
      iterate 2 (refine zv_step (bLw b L xs) rfl rfl trivial ?_)
      have en : n = n' := (nI_eq (by omega) (by omega)).mp (ex.symm.trans ex')
      subst en
      exact kk _ _ _ _ _ _ _ _ (Nat.le_add_right _ _) (Nat.le_add_right _ _) (⟨hear_LI hI.1 hC hM hSS _ q1, XS_rw hI.2 hC.1 hC.2.1 rfl (fun i _ h9 => updA_ne _ _ (by omega)) (fun r hr j _ => by rw [updA_ne _ _ (by omega)])⟩)
set_option maxHeartbeats 10000000 in
set_option maxRecDepth 100000 in
theorem lop_listen {b L : Nat} {xs : Nat → Int32} {i kc ks : Nat} (hi : i + 6 ≤ L) (hL : L ≤ 3072) (hk : kc + 1 ≤ room_1.cells ∧ ks + 6 ≤ room_1.slots) {O : Nat → Int32} {P : Nat → Nat → Int32} {Y : Nat → Nat → Int64} {o : Nat → Int32} {A : Nat → Nat → Int32} {J : Nat → Nat → Int64} (hI : LI5 O P Y o A) {Q : Option Value → zW → Prop} (kk : ∀ (kc' ks' : Nat) (O : Nat → Int32) (P : Nat → Nat → Int32) (Y : Nat → Nat → Int64) (o : Nat → Int32) (A : Nat → Nat → Int32) (J : Nat → Nat → Int64), kc' ≤ kc + 1 → ks' ≤ ks + 6 → LI5 O P Y o A → zV (zLw b L xs) true 0 kc' ks' 1580 (zlw i) [] (wX O P Y (gR o A J)) Q) : zV (zLw b L xs) true 0 kc ks 733 (zlw i) [] (wX O P Y (gR o A J)) Q := by
  obtain ⟨u, l, d, d2, hC, hM, hkp, hfn, hSS⟩ := LI2_open hI.1
  have hk0 : kc ≤ room_1.cells ∧ ks ≤ room_1.slots := ⟨by omega, by omega⟩
  have hu1 : (O 1).toInt ≤ 120 := by rw [hC.2.1, nI_toInt (by have := hC.1; omega)]; have := hC.1; omega
  iterate 5 (refine zv_step (bLw b L xs) rfl rfl trivial ?_)
  refine zv_sld rfl (show vp_in (nI i + Int32.ofInt 1) L from ix6 hi hL (k := 1) (by decide)) ?_
  iterate 4 (refine zv_step (bLw b L xs) rfl rfl trivial ?_)
  refine zv_sld rfl (show vp_in (nI i + Int32.ofInt 2) L from ix6 hi hL (k := 2) (by decide)) ?_
  refine zv_V2 (bLw b L xs) rfl rfl rfl rfl rfl rfl rfl ⟨rfl, rfl, rfl⟩ ⟨Nat.le_of_ble_eq_true rfl, Nat.le_of_ble_eq_true rfl⟩ hk0 (cListenX O P Y (gR o A J) hC.1 hC.2.1 hC.2.2.1 hC.2.2.2.1 hC.2.2.2.2.1 _ _) ?_
  rintro _ _ ⟨O', P', R, rfl, rfl, q, g1⟩
  refine zv_world (wXR _ _ _ _ _ _) ?_
  iterate 6 (refine zv_step (bLw b L xs) rfl rfl trivial ?_)
  refine zv_sld rfl (show vp_in (nI i + Int32.ofInt 1) L from ix6 hi hL (k := 1) (by decide)) ?_
  iterate 4 (refine zv_step (bLw b L xs) rfl rfl trivial ?_)
  refine zv_sld rfl (show vp_in (nI i + Int32.ofInt 2) L from ix6 hi hL (k := 2) (by decide)) ?_
  refine zv_V2 (bLw b L xs) rfl rfl rfl rfl rfl rfl rfl ⟨rfl, rfl, rfl⟩ ⟨Nat.le_of_ble_eq_true rfl, Nat.le_of_ble_eq_true rfl⟩ hk0 (mListenX _ o A J hM.1 hM.2.1 hM.2.2.1 hM.2.2.2.1 hM.2.2.2.2.1 hM.2.2.2.2.2.1 hM.2.2.2.2.2.2.1 _ _) ?_
  rintro _ _ ⟨o1, A1, R1, rfl, rfl, qm, g2⟩
  refine zv_world (wXR _ _ _ _ _ _).symm ?_
  iterate 2 (refine zv_step (bLw b L xs) rfl rfl trivial ?_)
  exact kk _ _ _ _ _ _ _ _ (Nat.le_add_right _ _) (Nat.le_add_right _ _) (⟨(listen_LI hI.1 hC hM hSS hkp q qm g1 g2).2, XS_rw hI.2 hC.1 hC.2.1 (q.1 1 (by decide)) (fun i _ h2 => q.2 i (by omega) (by omega) (by omega)) (fun r hr j _ => by rw [qm.2.2 r (by omega) (by omega) (by omega)])⟩)
set_option maxHeartbeats 10000000 in
set_option maxRecDepth 100000 in
theorem lop_hush {b L : Nat} {xs : Nat → Int32} {i kc ks : Nat} (hi : i + 6 ≤ L) (hL : L ≤ 3072) (hk : kc + 1 ≤ room_1.cells ∧ ks + 6 ≤ room_1.slots) {O : Nat → Int32} {P : Nat → Nat → Int32} {Y : Nat → Nat → Int64} {o : Nat → Int32} {A : Nat → Nat → Int32} {J : Nat → Nat → Int64} (hI : LI5 O P Y o A) {Q : Option Value → zW → Prop} (kk : ∀ (kc' ks' : Nat) (O : Nat → Int32) (P : Nat → Nat → Int32) (Y : Nat → Nat → Int64) (o : Nat → Int32) (A : Nat → Nat → Int32) (J : Nat → Nat → Int64), kc' ≤ kc + 1 → ks' ≤ ks + 6 → LI5 O P Y o A → zV (zLw b L xs) true 0 kc' ks' 1580 (zlw i) [] (wX O P Y (gR o A J)) Q) : zV (zLw b L xs) true 0 kc ks 770 (zlw i) [] (wX O P Y (gR o A J)) Q := by
  obtain ⟨u, l, d, d2, hC, hM, hkp, hfn, hSS⟩ := LI2_open hI.1
  have hk0 : kc ≤ room_1.cells ∧ ks ≤ room_1.slots := ⟨by omega, by omega⟩
  have hu1 : (O 1).toInt ≤ 120 := by rw [hC.2.1, nI_toInt (by have := hC.1; omega)]; have := hC.1; omega
  iterate 1 (refine zv_step (bLw b L xs) rfl rfl trivial ?_)
  refine zv_V0 (bLw b L xs) rfl rfl rfl rfl rfl rfl rfl ⟨rfl, rfl, rfl⟩ ⟨Nat.le_of_ble_eq_true rfl, Nat.le_of_ble_eq_true rfl⟩ hk0 (cHush O P Y (gR o A J)) ?_
  rintro _ _ ⟨rfl, rfl⟩
  refine zv_world (wXR _ _ _ _ _ _) ?_
  iterate 2 (refine zv_step (bLw b L xs) rfl rfl trivial ?_)
  refine zv_V0 (bLw b L xs) rfl rfl rfl rfl rfl rfl rfl ⟨rfl, rfl, rfl⟩ ⟨Nat.le_of_ble_eq_true rfl, Nat.le_of_ble_eq_true rfl⟩ hk0 (mHushX _ o A J) ?_
  rintro _ _ ⟨rfl, rfl⟩
  refine zv_world (wXR _ _ _ _ _ _).symm ?_
  iterate 2 (refine zv_step (bLw b L xs) rfl rfl trivial ?_)
  exact kk _ _ _ _ _ _ _ _ (Nat.le_add_right _ _) (Nat.le_add_right _ _) (⟨hush_LI hI.1 hC hM hSS, XS_rw hI.2 hC.1 hC.2.1 rfl (fun _ _ _ => rfl) (fun _ _ _ _ => rfl)⟩)
set_option maxHeartbeats 10000000 in
set_option maxRecDepth 100000 in
theorem lop_ear {b L : Nat} {xs : Nat → Int32} {i kc ks : Nat} (hi : i + 6 ≤ L) (hL : L ≤ 3072) (hk : kc + 1 ≤ room_1.cells ∧ ks + 6 ≤ room_1.slots) {O : Nat → Int32} {P : Nat → Nat → Int32} {Y : Nat → Nat → Int64} {o : Nat → Int32} {A : Nat → Nat → Int32} {J : Nat → Nat → Int64} (hI : LI5 O P Y o A) {Q : Option Value → zW → Prop} (kk : ∀ (kc' ks' : Nat) (O : Nat → Int32) (P : Nat → Nat → Int32) (Y : Nat → Nat → Int64) (o : Nat → Int32) (A : Nat → Nat → Int32) (J : Nat → Nat → Int64), kc' ≤ kc + 1 → ks' ≤ ks + 6 → LI5 O P Y o A → zV (zLw b L xs) true 0 kc' ks' 1580 (zlw i) [] (wX O P Y (gR o A J)) Q) : zV (zLw b L xs) true 0 kc ks 783 (zlw i) [] (wX O P Y (gR o A J)) Q := by
  obtain ⟨u, l, d, d2, hC, hM, hkp, hfn, hSS⟩ := LI2_open hI.1
  have hk0 : kc ≤ room_1.cells ∧ ks ≤ room_1.slots := ⟨by omega, by omega⟩
  have hu1 : (O 1).toInt ≤ 120 := by rw [hC.2.1, nI_toInt (by have := hC.1; omega)]; have := hC.1; omega
  iterate 5 (refine zv_step (bLw b L xs) rfl rfl trivial ?_)
  refine zv_sld rfl (show vp_in (nI i + Int32.ofInt 1) L from ix6 hi hL (k := 1) (by decide)) ?_
  refine zv_V1 (bLw b L xs) rfl rfl rfl rfl rfl rfl rfl ⟨rfl, rfl, rfl⟩ ⟨Nat.le_of_ble_eq_true rfl, Nat.le_of_ble_eq_true rfl⟩ hk0 (cEar O P Y (gR o A J) hC.2.2.2.1 hC.2.2.2.2.1 _) ?_
  rintro _ _ ⟨rfl, v, rfl⟩
  have hc := cI_id hC
  have ce := cE_id O P
  have dc := (rfl : P 12 = P 12)
  refine zv_world (wXR _ _ _ _ _ _) ?_
  iterate 6 (refine zv_step (bLw b L xs) rfl rfl trivial ?_)
  refine zv_sld rfl (show vp_in (nI i + Int32.ofInt 1) L from ix6 hi hL (k := 1) (by decide)) ?_
  refine zv_V1 (bLw b L xs) rfl rfl rfl rfl rfl rfl rfl ⟨rfl, rfl, rfl⟩ ⟨Nat.le_of_ble_eq_true rfl, Nat.le_of_ble_eq_true rfl⟩ hk0 (mEar _ o A J hM.2.2.2.2.1 hM.2.2.2.2.2.1 _) ?_
  rintro _ _ ⟨rfl, v1, rfl⟩
  have hm := mI_id hM
  have me := mE_id u o A
  refine zv_world (wXR _ _ _ _ _ _).symm ?_
  iterate 2 (refine zv_step (bLw b L xs) rfl rfl trivial ?_)
  exact kk _ _ _ _ _ _ _ _ (Nat.le_add_right _ _) (Nat.le_add_right _ _) (LI5_fr (d2 := d2) hI hC hSS hc hm ce me dc)
set_option maxHeartbeats 10000000 in
set_option maxRecDepth 100000 in
theorem lop_readings {b L : Nat} {xs : Nat → Int32} {i kc ks : Nat} (hi : i + 6 ≤ L) (hL : L ≤ 3072) (hk : kc + 1 ≤ room_1.cells ∧ ks + 6 ≤ room_1.slots) {O : Nat → Int32} {P : Nat → Nat → Int32} {Y : Nat → Nat → Int64} {o : Nat → Int32} {A : Nat → Nat → Int32} {J : Nat → Nat → Int64} (hI : LI5 O P Y o A) {Q : Option Value → zW → Prop} (kk : ∀ (kc' ks' : Nat) (O : Nat → Int32) (P : Nat → Nat → Int32) (Y : Nat → Nat → Int64) (o : Nat → Int32) (A : Nat → Nat → Int32) (J : Nat → Nat → Int64), kc' ≤ kc + 1 → ks' ≤ ks + 6 → LI5 O P Y o A → zV (zLw b L xs) true 0 kc' ks' 1580 (zlw i) [] (wX O P Y (gR o A J)) Q) : zV (zLw b L xs) true 0 kc ks 808 (zlw i) [] (wX O P Y (gR o A J)) Q := by
  obtain ⟨u, l, d, d2, hC, hM, hkp, hfn, hSS⟩ := LI2_open hI.1
  have hk0 : kc ≤ room_1.cells ∧ ks ≤ room_1.slots := ⟨by omega, by omega⟩
  have hu1 : (O 1).toInt ≤ 120 := by rw [hC.2.1, nI_toInt (by have := hC.1; omega)]; have := hC.1; omega
  iterate 5 (refine zv_step (bLw b L xs) rfl rfl trivial ?_)
  refine zv_sld rfl (show vp_in (nI i + Int32.ofInt 1) L from ix6 hi hL (k := 1) (by decide)) ?_
  iterate 1 (refine zv_step (bLw b L xs) rfl rfl trivial ?_)
  refine zv_help (nP := 3) rfl vL_readings ⟨by decide +kernel, by decide +kernel, by decide +kernel⟩ (As := [.ref 0, .int _, .ref 99]) (rest := []) rfl rfl (by decide) ⟨Nat.le_of_ble_eq_true rfl, Nat.le_of_ble_eq_true rfl⟩ hk (hL_readingsF O P Y o A J hC _) ?_
  rintro _ _ ⟨⟨R, rfl⟩, O', P', Y', J', rfl, hcf⟩
  have hc := cFr_St hcf
  have ce := cE_Fr hcf.2
  have dc := c12_Fr hcf.2
  refine zv_world (wXR _ _ _ _ _ _) ?_
  iterate 6 (refine zv_step (bLw b L xs) rfl rfl trivial ?_)
  refine zv_sld rfl (show vp_in (nI i + Int32.ofInt 1) L from ix6 hi hL (k := 1) (by decide)) ?_
  refine zv_V1 (bLw b L xs) rfl rfl rfl rfl rfl rfl rfl ⟨rfl, rfl, rfl⟩ ⟨Nat.le_of_ble_eq_true rfl, Nat.le_of_ble_eq_true rfl⟩ hk (mReadings _ o A _ hM.2.2.2.2.1 hM.2.2.2.2.2.2.1 hM.2.2.2.2.2.1 _) ?_
  rintro _ _ ⟨R1, o1, J1, rfl, rfl, qm⟩
  have hm := mI_o hM qm
  have me := mE_o A u qm
  refine zv_world (wXR _ _ _ _ _ _).symm ?_
  iterate 2 (refine zv_step (bLw b L xs) rfl rfl trivial ?_)
  refine zv_locals (l' := zlw i) ?_ (kk _ _ _ _ _ _ _ _ (Nat.le_refl _) (Nat.le_refl _) (LI5_fr (d2 := d2) hI hC hSS hc hm ce me dc))
  simp [zset1, zset2, Value.category]
set_option maxHeartbeats 10000000 in
set_option maxRecDepth 100000 in
theorem lop_write {b L : Nat} {xs : Nat → Int32} {i kc ks : Nat} (hi : i + 6 ≤ L) (hL : L ≤ 3072) (hk : kc + 1 ≤ room_1.cells ∧ ks + 6 ≤ room_1.slots) {O : Nat → Int32} {P : Nat → Nat → Int32} {Y : Nat → Nat → Int64} {o : Nat → Int32} {A : Nat → Nat → Int32} {J : Nat → Nat → Int64} (hI : LI5 O P Y o A) {Q : Option Value → zW → Prop} (kk : ∀ (kc' ks' : Nat) (O : Nat → Int32) (P : Nat → Nat → Int32) (Y : Nat → Nat → Int64) (o : Nat → Int32) (A : Nat → Nat → Int32) (J : Nat → Nat → Int64), kc' ≤ kc + 1 → ks' ≤ ks + 6 → LI5 O P Y o A → zV (zLw b L xs) true 0 kc' ks' 1580 (zlw i) [] (wX O P Y (gR o A J)) Q) : zV (zLw b L xs) true 0 kc ks 836 (zlw i) [] (wX O P Y (gR o A J)) Q := by
  obtain ⟨u, l, d, d2, hC, hM, hkp, hfn, hSS⟩ := LI2_open hI.1
  have hk0 : kc ≤ room_1.cells ∧ ks ≤ room_1.slots := ⟨by omega, by omega⟩
  have hu1 : (O 1).toInt ≤ 120 := by rw [hC.2.1, nI_toInt (by have := hC.1; omega)]; have := hC.1; omega
  iterate 5 (refine zv_step (bLw b L xs) rfl rfl trivial ?_)
  refine zv_sld rfl (show vp_in (nI i + Int32.ofInt 1) L from ix6 hi hL (k := 1) (by decide)) ?_
  iterate 4 (refine zv_step (bLw b L xs) rfl rfl trivial ?_)
  refine zv_sld rfl (show vp_in (nI i + Int32.ofInt 2) L from ix6 hi hL (k := 2) (by decide)) ?_
  iterate 7 (refine zv_step (bLw b L xs) rfl rfl trivial ?_)
  refine zv_sld rfl (show vp_in (nI i + Int32.ofInt 3) L from ix6 hi hL (k := 3) (by decide)) ?_
  iterate 4 (refine zv_step (bLw b L xs) rfl rfl trivial ?_)
  refine zv_V2 (bLw b L xs) rfl rfl rfl rfl rfl rfl rfl ⟨rfl, rfl, rfl⟩ ⟨Nat.le_of_ble_eq_true rfl, Nat.le_of_ble_eq_true rfl⟩ hk0 (cWriteX O P Y (gR o A J) hC.1 hC.2.1 (ea_of hSS hM.2.2.2.2.2.2.1) hC.2.2.2.2.1 hC.2.2.2.1 (gf_of hfn) (sy_of hkp) _ _) ?_
  rintro _ _ ⟨O', P', Y', R, rfl, rfl, qY, q, g1⟩
  refine zv_world (wXR _ _ _ _ _ _) ?_
  iterate 6 (refine zv_step (bLw b L xs) rfl rfl trivial ?_)
  refine zv_sld rfl (show vp_in (nI i + Int32.ofInt 1) L from ix6 hi hL (k := 1) (by decide)) ?_
  iterate 4 (refine zv_step (bLw b L xs) rfl rfl trivial ?_)
  refine zv_sld rfl (show vp_in (nI i + Int32.ofInt 2) L from ix6 hi hL (k := 2) (by decide)) ?_
  iterate 7 (refine zv_step (bLw b L xs) rfl rfl trivial ?_)
  refine zv_sld rfl (show vp_in (nI i + Int32.ofInt 3) L from ix6 hi hL (k := 3) (by decide)) ?_
  iterate 4 (refine zv_step (bLw b L xs) rfl rfl trivial ?_)
  refine zv_V2 (bLw b L xs) rfl rfl rfl rfl rfl rfl rfl ⟨rfl, rfl, rfl⟩ ⟨Nat.le_of_ble_eq_true rfl, Nat.le_of_ble_eq_true rfl⟩ hk0 (mWriteX _ o A J hM.1 hM.2.1 hM.2.2.1 hM.2.2.2.2.1 hM.2.2.2.2.2.2.1 hM.2.2.2.2.2.1 _ _) ?_
  rintro _ _ ⟨o1, A1, J1, R1, rfl, rfl, qm, g2⟩
  refine zv_world (wXR _ _ _ _ _ _).symm ?_
  iterate 2 (refine zv_step (bLw b L xs) rfl rfl trivial ?_)
  exact kk _ _ _ _ _ _ _ _ (Nat.le_add_right _ _) (Nat.le_add_right _ _) (⟨(write_LI hI.1 hC hM hSS qY q qm g1 g2).2, wr_XS (write_NS hC.1 hC.2.2.2.1 hSS (hI.2 u hC.1 hC.2.1) q qm g1 g2)⟩)
set_option maxHeartbeats 10000000 in
set_option maxRecDepth 100000 in
theorem lop_place {b L : Nat} {xs : Nat → Int32} {i kc ks : Nat} (hi : i + 6 ≤ L) (hL : L ≤ 3072) (hk : kc + 1 ≤ room_1.cells ∧ ks + 6 ≤ room_1.slots) {O : Nat → Int32} {P : Nat → Nat → Int32} {Y : Nat → Nat → Int64} {o : Nat → Int32} {A : Nat → Nat → Int32} {J : Nat → Nat → Int64} (hI : LI5 O P Y o A) {Q : Option Value → zW → Prop} (kk : ∀ (kc' ks' : Nat) (O : Nat → Int32) (P : Nat → Nat → Int32) (Y : Nat → Nat → Int64) (o : Nat → Int32) (A : Nat → Nat → Int32) (J : Nat → Nat → Int64), kc' ≤ kc + 1 → ks' ≤ ks + 6 → LI5 O P Y o A → zV (zLw b L xs) true 0 kc' ks' 1580 (zlw i) [] (wX O P Y (gR o A J)) Q) : zV (zLw b L xs) true 0 kc ks 905 (zlw i) [] (wX O P Y (gR o A J)) Q := by
  obtain ⟨u, l, d, d2, hC, hM, hkp, hfn, hSS⟩ := LI2_open hI.1
  have hk0 : kc ≤ room_1.cells ∧ ks ≤ room_1.slots := ⟨by omega, by omega⟩
  have hu1 : (O 1).toInt ≤ 120 := by rw [hC.2.1, nI_toInt (by have := hC.1; omega)]; have := hC.1; omega
  iterate 5 (refine zv_step (bLw b L xs) rfl rfl trivial ?_)
  refine zv_sld rfl (show vp_in (nI i + Int32.ofInt 1) L from ix6 hi hL (k := 1) (by decide)) ?_
  iterate 4 (refine zv_step (bLw b L xs) rfl rfl trivial ?_)
  refine zv_sld rfl (show vp_in (nI i + Int32.ofInt 2) L from ix6 hi hL (k := 2) (by decide)) ?_
  refine zv_V2 (bLw b L xs) rfl rfl rfl rfl rfl rfl rfl ⟨rfl, rfl, rfl⟩ ⟨Nat.le_of_ble_eq_true rfl, Nat.le_of_ble_eq_true rfl⟩ hk0 (cPlace O P Y (gR o A J) hu1 hC.2.2.2.1 hC.2.2.2.2.1 _ _) ?_
  rintro _ _ ⟨O', Y', v, rfl, rfl, q1, q2⟩
  have hc := cI_ty hC q1 q2
  have ce := cE_ty (P := P) q2
  have dc := (rfl : P 12 = P 12)
  refine zv_world (wXR _ _ _ _ _ _) ?_
  iterate 6 (refine zv_step (bLw b L xs) rfl rfl trivial ?_)
  refine zv_sld rfl (show vp_in (nI i + Int32.ofInt 1) L from ix6 hi hL (k := 1) (by decide)) ?_
  iterate 4 (refine zv_step (bLw b L xs) rfl rfl trivial ?_)
  refine zv_sld rfl (show vp_in (nI i + Int32.ofInt 2) L from ix6 hi hL (k := 2) (by decide)) ?_
  refine zv_V2 (bLw b L xs) rfl rfl rfl rfl rfl rfl rfl ⟨rfl, rfl, rfl⟩ ⟨Nat.le_of_ble_eq_true rfl, Nat.le_of_ble_eq_true rfl⟩ hk0 (mPlace _ o A J hM.1 hM.2.1 hM.2.2.1 hM.2.2.2.2.1 hM.2.2.2.2.2.2.1 hM.2.2.2.2.2.1 _ _) ?_
  rintro _ _ ⟨o1, J1, R1, rfl, rfl, qm⟩
  have hm := mI_o hM (fun j a b => qm j b)
  have me := mE_o A u (fun j a b => qm j b)
  refine zv_world (wXR _ _ _ _ _ _).symm ?_
  iterate 2 (refine zv_step (bLw b L xs) rfl rfl trivial ?_)
  exact kk _ _ _ _ _ _ _ _ (Nat.le_add_right _ _) (Nat.le_add_right _ _) (LI5_fr (d2 := d2) hI hC hSS hc hm ce me dc)
set_option maxHeartbeats 10000000 in
set_option maxRecDepth 100000 in
theorem lop_doubt {b L : Nat} {xs : Nat → Int32} {i kc ks : Nat} (hi : i + 6 ≤ L) (hL : L ≤ 3072) (hk : kc + 1 ≤ room_1.cells ∧ ks + 6 ≤ room_1.slots) {O : Nat → Int32} {P : Nat → Nat → Int32} {Y : Nat → Nat → Int64} {o : Nat → Int32} {A : Nat → Nat → Int32} {J : Nat → Nat → Int64} (hI : LI5 O P Y o A) {Q : Option Value → zW → Prop} (kk : ∀ (kc' ks' : Nat) (O : Nat → Int32) (P : Nat → Nat → Int32) (Y : Nat → Nat → Int64) (o : Nat → Int32) (A : Nat → Nat → Int32) (J : Nat → Nat → Int64), kc' ≤ kc + 1 → ks' ≤ ks + 6 → LI5 O P Y o A → zV (zLw b L xs) true 0 kc' ks' 1580 (zlw i) [] (wX O P Y (gR o A J)) Q) : zV (zLw b L xs) true 0 kc ks 942 (zlw i) [] (wX O P Y (gR o A J)) Q := by
  obtain ⟨u, l, d, d2, hC, hM, hkp, hfn, hSS⟩ := LI2_open hI.1
  have hk0 : kc ≤ room_1.cells ∧ ks ≤ room_1.slots := ⟨by omega, by omega⟩
  have hu1 : (O 1).toInt ≤ 120 := by rw [hC.2.1, nI_toInt (by have := hC.1; omega)]; have := hC.1; omega
  iterate 5 (refine zv_step (bLw b L xs) rfl rfl trivial ?_)
  refine zv_sld rfl (show vp_in (nI i + Int32.ofInt 1) L from ix6 hi hL (k := 1) (by decide)) ?_
  iterate 4 (refine zv_step (bLw b L xs) rfl rfl trivial ?_)
  refine zv_sld rfl (show vp_in (nI i + Int32.ofInt 2) L from ix6 hi hL (k := 2) (by decide)) ?_
  iterate 7 (refine zv_step (bLw b L xs) rfl rfl trivial ?_)
  refine zv_sld rfl (show vp_in (nI i + Int32.ofInt 3) L from ix6 hi hL (k := 3) (by decide)) ?_
  iterate 8 (refine zv_step (bLw b L xs) rfl rfl trivial ?_)
  refine zv_sld rfl (show vp_in (nI i + Int32.ofInt 4) L from ix6 hi hL (k := 4) (by decide)) ?_
  iterate 7 (refine zv_step (bLw b L xs) rfl rfl trivial ?_)
  refine zv_sld rfl (show vp_in (nI i + Int32.ofInt 5) L from ix6 hi hL (k := 5) (by decide)) ?_
  iterate 4 (refine zv_step (bLw b L xs) rfl rfl trivial ?_)
  refine zv_V3 (bLw b L xs) rfl rfl rfl rfl rfl rfl rfl ⟨rfl, rfl, rfl⟩ ⟨Nat.le_of_ble_eq_true rfl, Nat.le_of_ble_eq_true rfl⟩ hk0 (cDoubtT O P Y (gR o A J) hC.1 hC.2.1 hC.2.2.1 hC.2.2.2.2.2.1 hC.2.2.2.1 hC.2.2.2.2.1 _ _ _) ?_
  rintro _ _ ⟨O', P', Y', R, rfl, rfl, q⟩
  have hc := cI_db hC q
  have ce := cE_db q
  have dc := c12_db q
  refine zv_world (wXR _ _ _ _ _ _) ?_
  iterate 6 (refine zv_step (bLw b L xs) rfl rfl trivial ?_)
  refine zv_sld rfl (show vp_in (nI i + Int32.ofInt 1) L from ix6 hi hL (k := 1) (by decide)) ?_
  iterate 4 (refine zv_step (bLw b L xs) rfl rfl trivial ?_)
  refine zv_sld rfl (show vp_in (nI i + Int32.ofInt 2) L from ix6 hi hL (k := 2) (by decide)) ?_
  iterate 7 (refine zv_step (bLw b L xs) rfl rfl trivial ?_)
  refine zv_sld rfl (show vp_in (nI i + Int32.ofInt 3) L from ix6 hi hL (k := 3) (by decide)) ?_
  iterate 8 (refine zv_step (bLw b L xs) rfl rfl trivial ?_)
  refine zv_sld rfl (show vp_in (nI i + Int32.ofInt 4) L from ix6 hi hL (k := 4) (by decide)) ?_
  iterate 7 (refine zv_step (bLw b L xs) rfl rfl trivial ?_)
  refine zv_sld rfl (show vp_in (nI i + Int32.ofInt 5) L from ix6 hi hL (k := 5) (by decide)) ?_
  iterate 4 (refine zv_step (bLw b L xs) rfl rfl trivial ?_)
  refine zv_V3 (bLw b L xs) rfl rfl rfl rfl rfl rfl rfl ⟨rfl, rfl, rfl⟩ ⟨Nat.le_of_ble_eq_true rfl, Nat.le_of_ble_eq_true rfl⟩ hk0 (mDoubtT _ o A J hM.1 hM.2.1 hM.2.2.1 hM.2.2.2.2.1 hM.2.2.2.2.2.2.1 hM.2.2.2.2.2.1 _ _ _) ?_
  rintro _ _ ⟨o1, A1, J1, R1, rfl, rfl, qm⟩
  have hm := mI_db hM qm
  have me := mE_db hM.2.1 qm
  refine zv_world (wXR _ _ _ _ _ _).symm ?_
  iterate 2 (refine zv_step (bLw b L xs) rfl rfl trivial ?_)
  exact kk _ _ _ _ _ _ _ _ (Nat.le_add_right _ _) (Nat.le_add_right _ _) (LI5_fr (d2 := d2) hI hC hSS hc hm ce me dc)
set_option maxHeartbeats 10000000 in
set_option maxRecDepth 100000 in
theorem lop_fewest {b L : Nat} {xs : Nat → Int32} {i kc ks : Nat} (hi : i + 6 ≤ L) (hL : L ≤ 3072) (hk : kc + 1 ≤ room_1.cells ∧ ks + 6 ≤ room_1.slots) {O : Nat → Int32} {P : Nat → Nat → Int32} {Y : Nat → Nat → Int64} {o : Nat → Int32} {A : Nat → Nat → Int32} {J : Nat → Nat → Int64} (hI : LI5 O P Y o A) {Q : Option Value → zW → Prop} (kk : ∀ (kc' ks' : Nat) (O : Nat → Int32) (P : Nat → Nat → Int32) (Y : Nat → Nat → Int64) (o : Nat → Int32) (A : Nat → Nat → Int32) (J : Nat → Nat → Int64), kc' ≤ kc + 1 → ks' ≤ ks + 6 → LI5 O P Y o A → zV (zLw b L xs) true 0 kc' ks' 1580 (zlw i) [] (wX O P Y (gR o A J)) Q) : zV (zLw b L xs) true 0 kc ks 1055 (zlw i) [] (wX O P Y (gR o A J)) Q := by
  obtain ⟨u, l, d, d2, hC, hM, hkp, hfn, hSS⟩ := LI2_open hI.1
  have hk0 : kc ≤ room_1.cells ∧ ks ≤ room_1.slots := ⟨by omega, by omega⟩
  have hu1 : (O 1).toInt ≤ 120 := by rw [hC.2.1, nI_toInt (by have := hC.1; omega)]; have := hC.1; omega
  iterate 5 (refine zv_step (bLw b L xs) rfl rfl trivial ?_)
  refine zv_sld rfl (show vp_in (nI i + Int32.ofInt 1) L from ix6 hi hL (k := 1) (by decide)) ?_
  refine zv_V1 (bLw b L xs) rfl rfl rfl rfl rfl rfl rfl ⟨rfl, rfl, rfl⟩ ⟨Nat.le_of_ble_eq_true rfl, Nat.le_of_ble_eq_true rfl⟩ hk0 (cFewestX O P Y (gR o A J) hC.1 hC.2.1 hC.2.2.1 hC.2.2.2.1 hC.2.2.2.2.1 _) ?_
  rintro _ _ ⟨O', P', R, rfl, rfl, q, g1⟩
  refine zv_world (wXR _ _ _ _ _ _) ?_
  iterate 6 (refine zv_step (bLw b L xs) rfl rfl trivial ?_)
  refine zv_sld rfl (show vp_in (nI i + Int32.ofInt 1) L from ix6 hi hL (k := 1) (by decide)) ?_
  refine zv_V1 (bLw b L xs) rfl rfl rfl rfl rfl rfl rfl ⟨rfl, rfl, rfl⟩ ⟨Nat.le_of_ble_eq_true rfl, Nat.le_of_ble_eq_true rfl⟩ hk0 (mFewestX _ o A J hM.1 hM.2.1 hM.2.2.1 hSS.2.2.2.2.2.2.2.2 hM.2.2.2.2.1 hM.2.2.2.2.2.2.1 hM.2.2.2.2.2.1 _) ?_
  rintro _ _ ⟨o1, A1, J1, R1, rfl, rfl, qm, g2⟩
  refine zv_world (wXR _ _ _ _ _ _).symm ?_
  iterate 2 (refine zv_step (bLw b L xs) rfl rfl trivial ?_)
  exact kk _ _ _ _ _ _ _ _ (Nat.le_add_right _ _) (Nat.le_add_right _ _) (⟨(fewest_LI hI.1 hC hM hSS hfn q qm g1 g2).2, XS_rw hI.2 hC.1 hC.2.1 (q.1 1 (by decide)) (fun i _ h2 => q.2 i (by omega) (by omega) (by omega)) (fun r hr j _ => by rw [qm.2.2 r (by omega) (by omega) (by omega)])⟩)
set_option maxHeartbeats 10000000 in
set_option maxRecDepth 100000 in
theorem lop_walk {b L : Nat} {xs : Nat → Int32} {i kc ks : Nat} (hi : i + 6 ≤ L) (hL : L ≤ 3072) (hk : kc + 1 ≤ room_1.cells ∧ ks + 6 ≤ room_1.slots) {O : Nat → Int32} {P : Nat → Nat → Int32} {Y : Nat → Nat → Int64} {o : Nat → Int32} {A : Nat → Nat → Int32} {J : Nat → Nat → Int64} (hI : LI5 O P Y o A) {Q : Option Value → zW → Prop} (kk : ∀ (kc' ks' : Nat) (O : Nat → Int32) (P : Nat → Nat → Int32) (Y : Nat → Nat → Int64) (o : Nat → Int32) (A : Nat → Nat → Int32) (J : Nat → Nat → Int64), kc' ≤ kc + 1 → ks' ≤ ks + 6 → LI5 O P Y o A → zV (zLw b L xs) true 0 kc' ks' 1580 (zlw i) [] (wX O P Y (gR o A J)) Q) : zV (zLw b L xs) true 0 kc ks 1080 (zlw i) [] (wX O P Y (gR o A J)) Q := by
  obtain ⟨u, l, d, d2, hC, hM, hkp, hfn, hSS⟩ := LI2_open hI.1
  have hk0 : kc ≤ room_1.cells ∧ ks ≤ room_1.slots := ⟨by omega, by omega⟩
  have hu1 : (O 1).toInt ≤ 120 := by rw [hC.2.1, nI_toInt (by have := hC.1; omega)]; have := hC.1; omega
  iterate 5 (refine zv_step (bLw b L xs) rfl rfl trivial ?_)
  refine zv_sld rfl (show vp_in (nI i + Int32.ofInt 1) L from ix6 hi hL (k := 1) (by decide)) ?_
  refine zv_V1 (bLw b L xs) rfl rfl rfl rfl rfl rfl rfl ⟨rfl, rfl, rfl⟩ ⟨Nat.le_of_ble_eq_true rfl, Nat.le_of_ble_eq_true rfl⟩ hk0 (cWalkX O P Y (gR o A J) hC.1 hC.2.1 _) ?_
  rintro _ _ ⟨rfl, ⟨q1, rfl⟩ | ⟨q1, rfl⟩⟩
  · refine zv_world (wXR _ _ _ _ _ _) ?_
    iterate 6 (refine zv_step (bLw b L xs) rfl rfl trivial ?_)
    refine zv_sld rfl (show vp_in (nI i + Int32.ofInt 1) L from ix6 hi hL (k := 1) (by decide)) ?_
    refine zv_V1 (bLw b L xs) rfl rfl rfl rfl rfl rfl rfl ⟨rfl, rfl, rfl⟩ ⟨Nat.le_of_ble_eq_true rfl, Nat.le_of_ble_eq_true rfl⟩ hk0 (mWalkX _ o A J hM.1 hM.2.1 _) ?_
    rintro _ _ ⟨rfl, ⟨p1, rfl⟩ | ⟨p1, rfl⟩⟩
    · refine zv_world (wXR _ _ _ _ _ _).symm ?_
      iterate 2 (refine zv_step (bLw b L xs) rfl rfl trivial ?_)
      exact kk _ _ _ _ _ _ _ _ (Nat.le_add_right _ _) (Nat.le_add_right _ _) (hI)
    · refine zv_world (wXR _ _ _ _ _ _).symm ?_
      exfalso
      exact q1 p1
  · refine zv_world (wXR _ _ _ _ _ _) ?_
    iterate 6 (refine zv_step (bLw b L xs) rfl rfl trivial ?_)
    refine zv_sld rfl (show vp_in (nI i + Int32.ofInt 1) L from ix6 hi hL (k := 1) (by decide)) ?_
    refine zv_V1 (bLw b L xs) rfl rfl rfl rfl rfl rfl rfl ⟨rfl, rfl, rfl⟩ ⟨Nat.le_of_ble_eq_true rfl, Nat.le_of_ble_eq_true rfl⟩ hk0 (mWalkX _ o A J hM.1 hM.2.1 _) ?_
    rintro _ _ ⟨rfl, ⟨p1, rfl⟩ | ⟨p1, rfl⟩⟩
    · refine zv_world (wXR _ _ _ _ _ _).symm ?_
      exfalso
      exact p1 q1
    · refine zv_world (wXR _ _ _ _ _ _).symm ?_
      iterate 2 (refine zv_step (bLw b L xs) rfl rfl trivial ?_)
      exact kk _ _ _ _ _ _ _ _ (Nat.le_add_right _ _) (Nat.le_add_right _ _) (⟨walk_LI hI.1 hC hM hSS q1, XS_rw hI.2 hC.1 hC.2.1 rfl (fun i _ h9 => updA_ne _ _ (by omega)) (fun r hr j _ => by rw [updA_ne _ _ (by omega)])⟩)
set_option maxHeartbeats 10000000 in
set_option maxRecDepth 100000 in
theorem lop_go {b L : Nat} {xs : Nat → Int32} {i kc ks : Nat} (hi : i + 6 ≤ L) (hL : L ≤ 3072) (hk : kc + 1 ≤ room_1.cells ∧ ks + 6 ≤ room_1.slots) {O : Nat → Int32} {P : Nat → Nat → Int32} {Y : Nat → Nat → Int64} {o : Nat → Int32} {A : Nat → Nat → Int32} {J : Nat → Nat → Int64} (hI : LI5 O P Y o A) {Q : Option Value → zW → Prop} (kk : ∀ (kc' ks' : Nat) (O : Nat → Int32) (P : Nat → Nat → Int32) (Y : Nat → Nat → Int64) (o : Nat → Int32) (A : Nat → Nat → Int32) (J : Nat → Nat → Int64), kc' ≤ kc + 1 → ks' ≤ ks + 6 → LI5 O P Y o A → zV (zLw b L xs) true 0 kc' ks' 1580 (zlw i) [] (wX O P Y (gR o A J)) Q) : zV (zLw b L xs) true 0 kc ks 1105 (zlw i) [] (wX O P Y (gR o A J)) Q := by
  obtain ⟨u, l, d, d2, hC, hM, hkp, hfn, hSS⟩ := LI2_open hI.1
  have hk0 : kc ≤ room_1.cells ∧ ks ≤ room_1.slots := ⟨by omega, by omega⟩
  have hu1 : (O 1).toInt ≤ 120 := by rw [hC.2.1, nI_toInt (by have := hC.1; omega)]; have := hC.1; omega
  refine zv_world (wX_rt P Y (gR o A J) hC.2.2.2.2.2.2.2.1) ?_
  iterate 5 (refine zv_step (bLw b L xs) rfl rfl trivial ?_)
  refine zv_sld rfl (show vp_in (nI i + Int32.ofInt 1) L from ix6 hi hL (k := 1) (by decide)) ?_
  refine zv_V1 (bLw b L xs) rfl rfl rfl rfl rfl rfl rfl ⟨rfl, rfl, rfl⟩ ⟨Nat.le_of_ble_eq_true rfl, Nat.le_of_ble_eq_true rfl⟩ hk0 (cGoT O P Y (gR o A J) hC.1 hC.2.1 hC.2.2.1 hC.2.2.2.2.2.2.1 (P 56) (P 57) hC.2.2.2.2.2.2.2.2.1 hC.2.2.2.2.2.2.2.2.2.1 _) ?_
  rintro _ _ ⟨d', N', D', v, rfl, rfl, q1, q2⟩
  have hc := cI_go (D := D') hC q1 (top_N q2)
  have ce := cE_go (D := D') q2
  have dc := (rfl : updA (updA P 56 N') 57 D' 12 = P 12)
  refine zv_world (wXR _ _ _ _ _ _) ?_
  refine zv_world (show wR _ o A J = wR _ (upd o 33 (nI d2)) (updA (updA A 20 (A 20)) 21 (A 21)) J by rw [upd_same hM.2.2.2.2.2.2.2.2.1, updA_same A 20, updA_same A 21]) ?_
  iterate 6 (refine zv_step (bLw b L xs) rfl rfl trivial ?_)
  refine zv_sld rfl (show vp_in (nI i + Int32.ofInt 1) L from ix6 hi hL (k := 1) (by decide)) ?_
  refine zv_V1 (bLw b L xs) rfl rfl rfl rfl rfl rfl rfl ⟨rfl, rfl, rfl⟩ ⟨Nat.le_of_ble_eq_true rfl, Nat.le_of_ble_eq_true rfl⟩ hk0 (mGoT _ o A J hM.1 hM.2.2.1 hM.2.2.2.2.2.2.2.1 (A 21) hM.2.2.2.2.2.2.2.2.2.1 hM.2.2.2.2.2.2.2.2.2.2.1 _) ?_
  rintro _ _ ⟨d1, N1, D1, R1, rfl, rfl, qm1, qm2⟩
  have hm := mI_go (D := D1) hM qm2 (top_N qm1)
  have me := mE_go (D := D1) qm1
  refine zv_world (wXR _ _ _ _ _ _).symm ?_
  iterate 2 (refine zv_step (bLw b L xs) rfl rfl trivial ?_)
  exact kk _ _ _ _ _ _ _ _ (Nat.le_add_right _ _) (Nat.le_add_right _ _) (LI5_fr (d2 := d2) hI hC hSS hc hm ce me dc)
set_option maxHeartbeats 10000000 in
set_option maxRecDepth 100000 in
theorem lop_where {b L : Nat} {xs : Nat → Int32} {i kc ks : Nat} (hi : i + 6 ≤ L) (hL : L ≤ 3072) (hk : kc + 1 ≤ room_1.cells ∧ ks + 6 ≤ room_1.slots) {O : Nat → Int32} {P : Nat → Nat → Int32} {Y : Nat → Nat → Int64} {o : Nat → Int32} {A : Nat → Nat → Int32} {J : Nat → Nat → Int64} (hI : LI5 O P Y o A) {Q : Option Value → zW → Prop} (kk : ∀ (kc' ks' : Nat) (O : Nat → Int32) (P : Nat → Nat → Int32) (Y : Nat → Nat → Int64) (o : Nat → Int32) (A : Nat → Nat → Int32) (J : Nat → Nat → Int64), kc' ≤ kc + 1 → ks' ≤ ks + 6 → LI5 O P Y o A → zV (zLw b L xs) true 0 kc' ks' 1580 (zlw i) [] (wX O P Y (gR o A J)) Q) : zV (zLw b L xs) true 0 kc ks 1130 (zlw i) [] (wX O P Y (gR o A J)) Q := by
  obtain ⟨u, l, d, d2, hC, hM, hkp, hfn, hSS⟩ := LI2_open hI.1
  have hk0 : kc ≤ room_1.cells ∧ ks ≤ room_1.slots := ⟨by omega, by omega⟩
  have hu1 : (O 1).toInt ≤ 120 := by rw [hC.2.1, nI_toInt (by have := hC.1; omega)]; have := hC.1; omega
  iterate 5 (refine zv_step (bLw b L xs) rfl rfl trivial ?_)
  refine zv_sld rfl (show vp_in (nI i + Int32.ofInt 1) L from ix6 hi hL (k := 1) (by decide)) ?_
  iterate 1 (refine zv_step (bLw b L xs) rfl rfl trivial ?_)
  refine zv_help (nP := 3) rfl vL_where ⟨by decide +kernel, by decide +kernel, by decide +kernel⟩ (As := [.ref 0, .int _, .ref 99]) (rest := []) rfl rfl (by decide) ⟨Nat.le_of_ble_eq_true rfl, Nat.le_of_ble_eq_true rfl⟩ hk (hL_whereF O P Y o A J hC _) ?_
  rintro _ _ ⟨⟨R, rfl⟩, O', P', Y', J', rfl, hcf⟩
  have hc := cFr_St hcf
  have ce := cE_Fr hcf.2
  have dc := c12_Fr hcf.2
  refine zv_world (wXR _ _ _ _ _ _) ?_
  iterate 6 (refine zv_step (bLw b L xs) rfl rfl trivial ?_)
  refine zv_sld rfl (show vp_in (nI i + Int32.ofInt 1) L from ix6 hi hL (k := 1) (by decide)) ?_
  refine zv_V1 (bLw b L xs) rfl rfl rfl rfl rfl rfl rfl ⟨rfl, rfl, rfl⟩ ⟨Nat.le_of_ble_eq_true rfl, Nat.le_of_ble_eq_true rfl⟩ hk (mWhere _ o A _ hM.2.2.2.2.2.2.2.1 hM.2.2.2.2.2.2.2.2.1 _) ?_
  rintro _ _ ⟨R1, t1, rfl, rfl⟩
  have hm := mI_o (o' := upd o 16 t1) hM (fun j a b => upd_ne _ _ a)
  have me := mE_o (o' := upd o 16 t1) A u (fun j a b => upd_ne _ _ a)
  refine zv_world (wXR _ _ _ _ _ _).symm ?_
  iterate 2 (refine zv_step (bLw b L xs) rfl rfl trivial ?_)
  refine zv_locals (l' := zlw i) ?_ (kk _ _ _ _ _ _ _ _ (Nat.le_refl _) (Nat.le_refl _) (LI5_fr (d2 := d2) hI hC hSS hc hm ce me dc))
  simp [zset1, zset2, Value.category]
set_option maxHeartbeats 10000000 in
set_option maxRecDepth 100000 in
theorem lop_lead {b L : Nat} {xs : Nat → Int32} {i kc ks : Nat} (hi : i + 6 ≤ L) (hL : L ≤ 3072) (hk : kc + 1 ≤ room_1.cells ∧ ks + 6 ≤ room_1.slots) {O : Nat → Int32} {P : Nat → Nat → Int32} {Y : Nat → Nat → Int64} {o : Nat → Int32} {A : Nat → Nat → Int32} {J : Nat → Nat → Int64} (hI : LI5 O P Y o A) {Q : Option Value → zW → Prop} (kk : ∀ (kc' ks' : Nat) (O : Nat → Int32) (P : Nat → Nat → Int32) (Y : Nat → Nat → Int64) (o : Nat → Int32) (A : Nat → Nat → Int32) (J : Nat → Nat → Int64), kc' ≤ kc + 1 → ks' ≤ ks + 6 → LI5 O P Y o A → zV (zLw b L xs) true 0 kc' ks' 1580 (zlw i) [] (wX O P Y (gR o A J)) Q) : zV (zLw b L xs) true 0 kc ks 1158 (zlw i) [] (wX O P Y (gR o A J)) Q := by
  obtain ⟨u, l, d, d2, hC, hM, hkp, hfn, hSS⟩ := LI2_open hI.1
  have hk0 : kc ≤ room_1.cells ∧ ks ≤ room_1.slots := ⟨by omega, by omega⟩
  have hu1 : (O 1).toInt ≤ 120 := by rw [hC.2.1, nI_toInt (by have := hC.1; omega)]; have := hC.1; omega
  iterate 5 (refine zv_step (bLw b L xs) rfl rfl trivial ?_)
  refine zv_sld rfl (show vp_in (nI i + Int32.ofInt 1) L from ix6 hi hL (k := 1) (by decide)) ?_
  refine zv_V1 (bLw b L xs) rfl rfl rfl rfl rfl rfl rfl ⟨rfl, rfl, rfl⟩ ⟨Nat.le_of_ble_eq_true rfl, Nat.le_of_ble_eq_true rfl⟩ hk0 (cLeadT O P Y (gR o A J) hC.1 hC.2.1 hC.2.2.1 hC.2.2.2.2.2.2.2.2.1 hC.2.2.2.2.2.2.2.2.2.1 _) ?_
  rintro _ _ ⟨⟨v, rfl⟩, rfl | ⟨d', N', D', rfl, q1, q2⟩⟩
  · have hc := cI_id hC
    have ce := cE_id O P
    have dc := (rfl : P 12 = P 12)
    refine zv_world (wXR _ _ _ _ _ _) ?_
    iterate 6 (refine zv_step (bLw b L xs) rfl rfl trivial ?_)
    refine zv_sld rfl (show vp_in (nI i + Int32.ofInt 1) L from ix6 hi hL (k := 1) (by decide)) ?_
    refine zv_V1 (bLw b L xs) rfl rfl rfl rfl rfl rfl rfl ⟨rfl, rfl, rfl⟩ ⟨Nat.le_of_ble_eq_true rfl, Nat.le_of_ble_eq_true rfl⟩ hk0 (mLeadT _ o A J hM.1 hM.2.2.1 hM.2.2.2.2.2.2.2.2.2.1 hM.2.2.2.2.2.2.2.2.2.2.1 _) ?_
    rintro _ _ ⟨⟨R1, rfl⟩, rfl | ⟨d1, N1, D1, rfl, qm1, qm2⟩⟩
    · have hm := mI_id hM
      have me := mE_id u o A
      refine zv_world (wXR _ _ _ _ _ _).symm ?_
      iterate 2 (refine zv_step (bLw b L xs) rfl rfl trivial ?_)
      exact kk _ _ _ _ _ _ _ _ (Nat.le_add_right _ _) (Nat.le_add_right _ _) (LI5_fr (d2 := d2) hI hC hSS hc hm ce me dc)
    · have hm := mI_go (D := D1) hM qm2 (top_N qm1)
      have me := mE_go (D := D1) qm1
      refine zv_world (wXR _ _ _ _ _ _).symm ?_
      iterate 2 (refine zv_step (bLw b L xs) rfl rfl trivial ?_)
      exact kk _ _ _ _ _ _ _ _ (Nat.le_add_right _ _) (Nat.le_add_right _ _) (LI5_fr (d2 := d2) hI hC hSS hc hm ce me dc)
  · have hc := cI_go (D := D') hC q1 (top_N q2)
    have ce := cE_go (D := D') q2
    have dc := (rfl : updA (updA P 56 N') 57 D' 12 = P 12)
    refine zv_world (wXR _ _ _ _ _ _) ?_
    iterate 6 (refine zv_step (bLw b L xs) rfl rfl trivial ?_)
    refine zv_sld rfl (show vp_in (nI i + Int32.ofInt 1) L from ix6 hi hL (k := 1) (by decide)) ?_
    refine zv_V1 (bLw b L xs) rfl rfl rfl rfl rfl rfl rfl ⟨rfl, rfl, rfl⟩ ⟨Nat.le_of_ble_eq_true rfl, Nat.le_of_ble_eq_true rfl⟩ hk0 (mLeadT _ o A J hM.1 hM.2.2.1 hM.2.2.2.2.2.2.2.2.2.1 hM.2.2.2.2.2.2.2.2.2.2.1 _) ?_
    rintro _ _ ⟨⟨R1, rfl⟩, rfl | ⟨d1, N1, D1, rfl, qm1, qm2⟩⟩
    · have hm := mI_id hM
      have me := mE_id u o A
      refine zv_world (wXR _ _ _ _ _ _).symm ?_
      iterate 2 (refine zv_step (bLw b L xs) rfl rfl trivial ?_)
      exact kk _ _ _ _ _ _ _ _ (Nat.le_add_right _ _) (Nat.le_add_right _ _) (LI5_fr (d2 := d2) hI hC hSS hc hm ce me dc)
    · have hm := mI_go (D := D1) hM qm2 (top_N qm1)
      have me := mE_go (D := D1) qm1
      refine zv_world (wXR _ _ _ _ _ _).symm ?_
      iterate 2 (refine zv_step (bLw b L xs) rfl rfl trivial ?_)
      exact kk _ _ _ _ _ _ _ _ (Nat.le_add_right _ _) (Nat.le_add_right _ _) (LI5_fr (d2 := d2) hI hC hSS hc hm ce me dc)
set_option maxHeartbeats 10000000 in
set_option maxRecDepth 100000 in
theorem lop_glance {b L : Nat} {xs : Nat → Int32} {i kc ks : Nat} (hi : i + 6 ≤ L) (hL : L ≤ 3072) (hk : kc + 1 ≤ room_1.cells ∧ ks + 6 ≤ room_1.slots) {O : Nat → Int32} {P : Nat → Nat → Int32} {Y : Nat → Nat → Int64} {o : Nat → Int32} {A : Nat → Nat → Int32} {J : Nat → Nat → Int64} (hI : LI5 O P Y o A) {Q : Option Value → zW → Prop} (kk : ∀ (kc' ks' : Nat) (O : Nat → Int32) (P : Nat → Nat → Int32) (Y : Nat → Nat → Int64) (o : Nat → Int32) (A : Nat → Nat → Int32) (J : Nat → Nat → Int64), kc' ≤ kc + 1 → ks' ≤ ks + 6 → LI5 O P Y o A → zV (zLw b L xs) true 0 kc' ks' 1580 (zlw i) [] (wX O P Y (gR o A J)) Q) : zV (zLw b L xs) true 0 kc ks 1183 (zlw i) [] (wX O P Y (gR o A J)) Q := by
  obtain ⟨u, l, d, d2, hC, hM, hkp, hfn, hSS⟩ := LI2_open hI.1
  have hk0 : kc ≤ room_1.cells ∧ ks ≤ room_1.slots := ⟨by omega, by omega⟩
  have hu1 : (O 1).toInt ≤ 120 := by rw [hC.2.1, nI_toInt (by have := hC.1; omega)]; have := hC.1; omega
  iterate 5 (refine zv_step (bLw b L xs) rfl rfl trivial ?_)
  refine zv_sld rfl (show vp_in (nI i + Int32.ofInt 1) L from ix6 hi hL (k := 1) (by decide)) ?_
  iterate 4 (refine zv_step (bLw b L xs) rfl rfl trivial ?_)
  refine zv_sld rfl (show vp_in (nI i + Int32.ofInt 2) L from ix6 hi hL (k := 2) (by decide)) ?_
  refine zv_V2 (bLw b L xs) rfl rfl rfl rfl rfl rfl rfl ⟨rfl, rfl, rfl⟩ ⟨Nat.le_of_ble_eq_true rfl, Nat.le_of_ble_eq_true rfl⟩ hk0 (cGlanceT O P Y (gR o A J) hC.1 hC.2.1 hC.2.2.1 hC.2.2.2.1 hC.2.2.2.2.1 hC.2.2.2.2.2.2.1 hC.2.2.2.2.2.2.2.1 hC.2.2.2.2.2.2.2.2.1 hC.2.2.2.2.2.2.2.2.2.1 _ _) ?_
  rintro _ _ ⟨O', P', R, rfl, rfl, q⟩
  have hc := cI_sp hC (spT_W hC.2.2.2.1 hC.2.2.2.2.1 q)
  have ce := cE_sp q
  have dc := c12_sp q
  refine zv_world (wXR _ _ _ _ _ _) ?_
  iterate 6 (refine zv_step (bLw b L xs) rfl rfl trivial ?_)
  refine zv_sld rfl (show vp_in (nI i + Int32.ofInt 1) L from ix6 hi hL (k := 1) (by decide)) ?_
  iterate 4 (refine zv_step (bLw b L xs) rfl rfl trivial ?_)
  refine zv_sld rfl (show vp_in (nI i + Int32.ofInt 2) L from ix6 hi hL (k := 2) (by decide)) ?_
  refine zv_V2 (bLw b L xs) rfl rfl rfl rfl rfl rfl rfl ⟨rfl, rfl, rfl⟩ ⟨Nat.le_of_ble_eq_true rfl, Nat.le_of_ble_eq_true rfl⟩ hk0 (mGlance _ o A J hM.1 hM.2.2.1 hM.2.2.2.2.2.2.2.1 hM.2.2.2.2.2.2.2.2.1 hM.2.2.2.2.2.2.2.2.2.1 hM.2.2.2.2.2.2.2.2.2.2.1 _ _) ?_
  rintro _ _ ⟨rfl, v1, rfl⟩
  have hm := mI_id hM
  have me := mE_id u o A
  refine zv_world (wXR _ _ _ _ _ _).symm ?_
  iterate 2 (refine zv_step (bLw b L xs) rfl rfl trivial ?_)
  exact kk _ _ _ _ _ _ _ _ (Nat.le_add_right _ _) (Nat.le_add_right _ _) (LI5_fr (d2 := d2) hI hC hSS hc hm ce me dc)
set_option maxHeartbeats 10000000 in
set_option maxRecDepth 100000 in
theorem lop_changed {b L : Nat} {xs : Nat → Int32} {i kc ks : Nat} (hi : i + 6 ≤ L) (hL : L ≤ 3072) (hk : kc + 1 ≤ room_1.cells ∧ ks + 6 ≤ room_1.slots) {O : Nat → Int32} {P : Nat → Nat → Int32} {Y : Nat → Nat → Int64} {o : Nat → Int32} {A : Nat → Nat → Int32} {J : Nat → Nat → Int64} (hI : LI5 O P Y o A) {Q : Option Value → zW → Prop} (kk : ∀ (kc' ks' : Nat) (O : Nat → Int32) (P : Nat → Nat → Int32) (Y : Nat → Nat → Int64) (o : Nat → Int32) (A : Nat → Nat → Int32) (J : Nat → Nat → Int64), kc' ≤ kc + 1 → ks' ≤ ks + 6 → LI5 O P Y o A → zV (zLw b L xs) true 0 kc' ks' 1580 (zlw i) [] (wX O P Y (gR o A J)) Q) : zV (zLw b L xs) true 0 kc ks 1220 (zlw i) [] (wX O P Y (gR o A J)) Q := by
  obtain ⟨u, l, d, d2, hC, hM, hkp, hfn, hSS⟩ := LI2_open hI.1
  have hk0 : kc ≤ room_1.cells ∧ ks ≤ room_1.slots := ⟨by omega, by omega⟩
  have hu1 : (O 1).toInt ≤ 120 := by rw [hC.2.1, nI_toInt (by have := hC.1; omega)]; have := hC.1; omega
  iterate 5 (refine zv_step (bLw b L xs) rfl rfl trivial ?_)
  refine zv_sld rfl (show vp_in (nI i + Int32.ofInt 1) L from ix6 hi hL (k := 1) (by decide)) ?_
  iterate 4 (refine zv_step (bLw b L xs) rfl rfl trivial ?_)
  refine zv_sld rfl (show vp_in (nI i + Int32.ofInt 2) L from ix6 hi hL (k := 2) (by decide)) ?_
  refine zv_V2 (bLw b L xs) rfl rfl rfl rfl rfl rfl rfl ⟨rfl, rfl, rfl⟩ ⟨Nat.le_of_ble_eq_true rfl, Nat.le_of_ble_eq_true rfl⟩ hk0 (cChanged O P Y (gR o A J) hu1 _ _) ?_
  rintro _ _ ⟨rfl, v, rfl⟩
  have hc := cI_id hC
  have ce := cE_id O P
  have dc := (rfl : P 12 = P 12)
  refine zv_world (wXR _ _ _ _ _ _) ?_
  iterate 6 (refine zv_step (bLw b L xs) rfl rfl trivial ?_)
  refine zv_sld rfl (show vp_in (nI i + Int32.ofInt 1) L from ix6 hi hL (k := 1) (by decide)) ?_
  iterate 4 (refine zv_step (bLw b L xs) rfl rfl trivial ?_)
  refine zv_sld rfl (show vp_in (nI i + Int32.ofInt 2) L from ix6 hi hL (k := 2) (by decide)) ?_
  refine zv_V2 (bLw b L xs) rfl rfl rfl rfl rfl rfl rfl ⟨rfl, rfl, rfl⟩ ⟨Nat.le_of_ble_eq_true rfl, Nat.le_of_ble_eq_true rfl⟩ hk0 (mChanged _ o A J hM.1 hM.2.1 hM.2.2.1 _ _) ?_
  rintro _ _ ⟨rfl, v1, rfl⟩
  have hm := mI_id hM
  have me := mE_id u o A
  refine zv_world (wXR _ _ _ _ _ _).symm ?_
  iterate 2 (refine zv_step (bLw b L xs) rfl rfl trivial ?_)
  exact kk _ _ _ _ _ _ _ _ (Nat.le_add_right _ _) (Nat.le_add_right _ _) (LI5_fr (d2 := d2) hI hC hSS hc hm ce me dc)
set_option maxHeartbeats 10000000 in
set_option maxRecDepth 100000 in
theorem lop_exchanged {b L : Nat} {xs : Nat → Int32} {i kc ks : Nat} (hi : i + 6 ≤ L) (hL : L ≤ 3072) (hk : kc + 1 ≤ room_1.cells ∧ ks + 6 ≤ room_1.slots) {O : Nat → Int32} {P : Nat → Nat → Int32} {Y : Nat → Nat → Int64} {o : Nat → Int32} {A : Nat → Nat → Int32} {J : Nat → Nat → Int64} (hI : LI5 O P Y o A) {Q : Option Value → zW → Prop} (kk : ∀ (kc' ks' : Nat) (O : Nat → Int32) (P : Nat → Nat → Int32) (Y : Nat → Nat → Int64) (o : Nat → Int32) (A : Nat → Nat → Int32) (J : Nat → Nat → Int64), kc' ≤ kc + 1 → ks' ≤ ks + 6 → LI5 O P Y o A → zV (zLw b L xs) true 0 kc' ks' 1580 (zlw i) [] (wX O P Y (gR o A J)) Q) : zV (zLw b L xs) true 0 kc ks 1257 (zlw i) [] (wX O P Y (gR o A J)) Q := by
  obtain ⟨u, l, d, d2, hC, hM, hkp, hfn, hSS⟩ := LI2_open hI.1
  have hk0 : kc ≤ room_1.cells ∧ ks ≤ room_1.slots := ⟨by omega, by omega⟩
  have hu1 : (O 1).toInt ≤ 120 := by rw [hC.2.1, nI_toInt (by have := hC.1; omega)]; have := hC.1; omega
  iterate 5 (refine zv_step (bLw b L xs) rfl rfl trivial ?_)
  refine zv_sld rfl (show vp_in (nI i + Int32.ofInt 1) L from ix6 hi hL (k := 1) (by decide)) ?_
  iterate 4 (refine zv_step (bLw b L xs) rfl rfl trivial ?_)
  refine zv_sld rfl (show vp_in (nI i + Int32.ofInt 2) L from ix6 hi hL (k := 2) (by decide)) ?_
  refine zv_V2 (bLw b L xs) rfl rfl rfl rfl rfl rfl rfl ⟨rfl, rfl, rfl⟩ ⟨Nat.le_of_ble_eq_true rfl, Nat.le_of_ble_eq_true rfl⟩ hk0 (cExchanged O P Y (gR o A J) hu1 _ _) ?_
  rintro _ _ ⟨rfl, v, rfl⟩
  have hc := cI_id hC
  have ce := cE_id O P
  have dc := (rfl : P 12 = P 12)
  refine zv_world (wXR _ _ _ _ _ _) ?_
  iterate 6 (refine zv_step (bLw b L xs) rfl rfl trivial ?_)
  refine zv_sld rfl (show vp_in (nI i + Int32.ofInt 1) L from ix6 hi hL (k := 1) (by decide)) ?_
  iterate 4 (refine zv_step (bLw b L xs) rfl rfl trivial ?_)
  refine zv_sld rfl (show vp_in (nI i + Int32.ofInt 2) L from ix6 hi hL (k := 2) (by decide)) ?_
  refine zv_V2 (bLw b L xs) rfl rfl rfl rfl rfl rfl rfl ⟨rfl, rfl, rfl⟩ ⟨Nat.le_of_ble_eq_true rfl, Nat.le_of_ble_eq_true rfl⟩ hk0 (mExchanged _ o A J hM.1 hM.2.1 hM.2.2.1 _ _) ?_
  rintro _ _ ⟨rfl, v1, rfl⟩
  have hm := mI_id hM
  have me := mE_id u o A
  refine zv_world (wXR _ _ _ _ _ _).symm ?_
  iterate 2 (refine zv_step (bLw b L xs) rfl rfl trivial ?_)
  exact kk _ _ _ _ _ _ _ _ (Nat.le_add_right _ _) (Nat.le_add_right _ _) (LI5_fr (d2 := d2) hI hC hSS hc hm ce me dc)
set_option maxHeartbeats 10000000 in
set_option maxRecDepth 100000 in
theorem lop_count {b L : Nat} {xs : Nat → Int32} {i kc ks : Nat} (hi : i + 6 ≤ L) (hL : L ≤ 3072) (hk : kc + 1 ≤ room_1.cells ∧ ks + 6 ≤ room_1.slots) {O : Nat → Int32} {P : Nat → Nat → Int32} {Y : Nat → Nat → Int64} {o : Nat → Int32} {A : Nat → Nat → Int32} {J : Nat → Nat → Int64} (hI : LI5 O P Y o A) {Q : Option Value → zW → Prop} (kk : ∀ (kc' ks' : Nat) (O : Nat → Int32) (P : Nat → Nat → Int32) (Y : Nat → Nat → Int64) (o : Nat → Int32) (A : Nat → Nat → Int32) (J : Nat → Nat → Int64), kc' ≤ kc + 1 → ks' ≤ ks + 6 → LI5 O P Y o A → zV (zLw b L xs) true 0 kc' ks' 1580 (zlw i) [] (wX O P Y (gR o A J)) Q) : zV (zLw b L xs) true 0 kc ks 1294 (zlw i) [] (wX O P Y (gR o A J)) Q := by
  obtain ⟨u, l, d, d2, hC, hM, hkp, hfn, hSS⟩ := LI2_open hI.1
  have hk0 : kc ≤ room_1.cells ∧ ks ≤ room_1.slots := ⟨by omega, by omega⟩
  have hu1 : (O 1).toInt ≤ 120 := by rw [hC.2.1, nI_toInt (by have := hC.1; omega)]; have := hC.1; omega
  iterate 5 (refine zv_step (bLw b L xs) rfl rfl trivial ?_)
  refine zv_sld rfl (show vp_in (nI i + Int32.ofInt 1) L from ix6 hi hL (k := 1) (by decide)) ?_
  refine zv_V1 (bLw b L xs) rfl rfl rfl rfl rfl rfl rfl ⟨rfl, rfl, rfl⟩ ⟨Nat.le_of_ble_eq_true rfl, Nat.le_of_ble_eq_true rfl⟩ hk0 (cCount O P Y (gR o A J) _) ?_
  rintro _ _ ⟨rfl, v, rfl⟩
  have hc := cI_id hC
  have ce := cE_id O P
  have dc := (rfl : P 12 = P 12)
  refine zv_world (wXR _ _ _ _ _ _) ?_
  iterate 6 (refine zv_step (bLw b L xs) rfl rfl trivial ?_)
  refine zv_sld rfl (show vp_in (nI i + Int32.ofInt 1) L from ix6 hi hL (k := 1) (by decide)) ?_
  refine zv_V1 (bLw b L xs) rfl rfl rfl rfl rfl rfl rfl ⟨rfl, rfl, rfl⟩ ⟨Nat.le_of_ble_eq_true rfl, Nat.le_of_ble_eq_true rfl⟩ hk0 (mCount _ o A J _) ?_
  rintro _ _ ⟨rfl, v1, rfl⟩
  have hm := mI_id hM
  have me := mE_id u o A
  refine zv_world (wXR _ _ _ _ _ _).symm ?_
  iterate 2 (refine zv_step (bLw b L xs) rfl rfl trivial ?_)
  exact kk _ _ _ _ _ _ _ _ (Nat.le_add_right _ _) (Nat.le_add_right _ _) (LI5_fr (d2 := d2) hI hC hSS hc hm ce me dc)
set_option maxHeartbeats 10000000 in
set_option maxRecDepth 100000 in
theorem lop_keep {b L : Nat} {xs : Nat → Int32} {i kc ks : Nat} (hi : i + 6 ≤ L) (hL : L ≤ 3072) (hk : kc + 1 ≤ room_1.cells ∧ ks + 6 ≤ room_1.slots) {O : Nat → Int32} {P : Nat → Nat → Int32} {Y : Nat → Nat → Int64} {o : Nat → Int32} {A : Nat → Nat → Int32} {J : Nat → Nat → Int64} (hI : LI5 O P Y o A) {Q : Option Value → zW → Prop} (kk : ∀ (kc' ks' : Nat) (O : Nat → Int32) (P : Nat → Nat → Int32) (Y : Nat → Nat → Int64) (o : Nat → Int32) (A : Nat → Nat → Int32) (J : Nat → Nat → Int64), kc' ≤ kc + 1 → ks' ≤ ks + 6 → LI5 O P Y o A → zV (zLw b L xs) true 0 kc' ks' 1580 (zlw i) [] (wX O P Y (gR o A J)) Q) : zV (zLw b L xs) true 0 kc ks 1319 (zlw i) [] (wX O P Y (gR o A J)) Q := by
  obtain ⟨u, l, d, d2, hC, hM, hkp, hfn, hSS⟩ := LI2_open hI.1
  have hk0 : kc ≤ room_1.cells ∧ ks ≤ room_1.slots := ⟨by omega, by omega⟩
  have hu1 : (O 1).toInt ≤ 120 := by rw [hC.2.1, nI_toInt (by have := hC.1; omega)]; have := hC.1; omega
  iterate 5 (refine zv_step (bLw b L xs) rfl rfl trivial ?_)
  refine zv_sld rfl (show vp_in (nI i + Int32.ofInt 1) L from ix6 hi hL (k := 1) (by decide)) ?_
  iterate 4 (refine zv_step (bLw b L xs) rfl rfl trivial ?_)
  refine zv_sld rfl (show vp_in (nI i + Int32.ofInt 2) L from ix6 hi hL (k := 2) (by decide)) ?_
  iterate 4 (refine zv_step (bLw b L xs) rfl rfl trivial ?_)
  refine zv_sld rfl (show vp_in (nI i + Int32.ofInt 3) L from ix6 hi hL (k := 3) (by decide)) ?_
  refine zv_V3 (bLw b L xs) rfl rfl rfl rfl rfl rfl rfl ⟨rfl, rfl, rfl⟩ ⟨Nat.le_of_ble_eq_true rfl, Nat.le_of_ble_eq_true rfl⟩ hk0 (cKeep O P Y (gR o A J) hC.1 hC.2.1 hC.2.2.1 hC.2.2.2.1 hC.2.2.2.2.1 _ _ _) ?_
  rintro _ _ ⟨O', P', R, s, q1, rfl, rfl, q⟩
  have hc := cI_sh hC q1 q
  have ce := cE_sh q
  have dc := c12_sh q
  refine zv_world (wXR _ _ _ _ _ _) ?_
  iterate 6 (refine zv_step (bLw b L xs) rfl rfl trivial ?_)
  refine zv_sld rfl (show vp_in (nI i + Int32.ofInt 1) L from ix6 hi hL (k := 1) (by decide)) ?_
  iterate 4 (refine zv_step (bLw b L xs) rfl rfl trivial ?_)
  refine zv_sld rfl (show vp_in (nI i + Int32.ofInt 2) L from ix6 hi hL (k := 2) (by decide)) ?_
  iterate 4 (refine zv_step (bLw b L xs) rfl rfl trivial ?_)
  refine zv_sld rfl (show vp_in (nI i + Int32.ofInt 3) L from ix6 hi hL (k := 3) (by decide)) ?_
  refine zv_V3 (bLw b L xs) rfl rfl rfl rfl rfl rfl rfl ⟨rfl, rfl, rfl⟩ ⟨Nat.le_of_ble_eq_true rfl, Nat.le_of_ble_eq_true rfl⟩ hk0 (mKeep _ o A J hM.1 hM.2.1 hM.2.2.1 hM.2.2.2.2.1 hM.2.2.2.2.2.1 hM.2.2.2.2.2.2.2.2.2.2.2 _ _ _) ?_
  rintro _ _ ⟨o1, A1, R1, rfl, rfl, qm⟩
  have hm := mI_sh hM qm
  have me := mE_sh u qm
  refine zv_world (wXR _ _ _ _ _ _).symm ?_
  iterate 2 (refine zv_step (bLw b L xs) rfl rfl trivial ?_)
  exact kk _ _ _ _ _ _ _ _ (Nat.le_add_right _ _) (Nat.le_add_right _ _) (LI5_fr (d2 := d2) hI hC hSS hc hm ce me dc)
set_option maxHeartbeats 10000000 in
set_option maxRecDepth 100000 in
theorem lop_make {b L : Nat} {xs : Nat → Int32} {i kc ks : Nat} (hi : i + 6 ≤ L) (hL : L ≤ 3072) (hk : kc + 1 ≤ room_1.cells ∧ ks + 6 ≤ room_1.slots) {O : Nat → Int32} {P : Nat → Nat → Int32} {Y : Nat → Nat → Int64} {o : Nat → Int32} {A : Nat → Nat → Int32} {J : Nat → Nat → Int64} (hI : LI5 O P Y o A) {Q : Option Value → zW → Prop} (kk : ∀ (kc' ks' : Nat) (O : Nat → Int32) (P : Nat → Nat → Int32) (Y : Nat → Nat → Int64) (o : Nat → Int32) (A : Nat → Nat → Int32) (J : Nat → Nat → Int64), kc' ≤ kc + 1 → ks' ≤ ks + 6 → LI5 O P Y o A → zV (zLw b L xs) true 0 kc' ks' 1580 (zlw i) [] (wX O P Y (gR o A J)) Q) : zV (zLw b L xs) true 0 kc ks 1368 (zlw i) [] (wX O P Y (gR o A J)) Q := by
  obtain ⟨u, l, d, d2, hC, hM, hkp, hfn, hSS⟩ := LI2_open hI.1
  have hk0 : kc ≤ room_1.cells ∧ ks ≤ room_1.slots := ⟨by omega, by omega⟩
  have hu1 : (O 1).toInt ≤ 120 := by rw [hC.2.1, nI_toInt (by have := hC.1; omega)]; have := hC.1; omega
  iterate 5 (refine zv_step (bLw b L xs) rfl rfl trivial ?_)
  refine zv_sld rfl (show vp_in (nI i + Int32.ofInt 1) L from ix6 hi hL (k := 1) (by decide)) ?_
  iterate 4 (refine zv_step (bLw b L xs) rfl rfl trivial ?_)
  refine zv_sld rfl (show vp_in (nI i + Int32.ofInt 2) L from ix6 hi hL (k := 2) (by decide)) ?_
  iterate 4 (refine zv_step (bLw b L xs) rfl rfl trivial ?_)
  refine zv_sld rfl (show vp_in (nI i + Int32.ofInt 3) L from ix6 hi hL (k := 3) (by decide)) ?_
  refine zv_V3 (bLw b L xs) rfl rfl rfl rfl rfl rfl rfl ⟨rfl, rfl, rfl⟩ ⟨Nat.le_of_ble_eq_true rfl, Nat.le_of_ble_eq_true rfl⟩ hk0 (cMake O P Y (gR o A J) _ _ _) ?_
  rintro _ _ ⟨⟨R, rfl⟩, rfl | ⟨s, a, m, P', q1, q2, rfl, q3⟩⟩
  · have hc := cI_id hC
    have ce := cE_id O P
    have dc := (rfl : P 12 = P 12)
    refine zv_world (wXR _ _ _ _ _ _) ?_
    iterate 6 (refine zv_step (bLw b L xs) rfl rfl trivial ?_)
    refine zv_sld rfl (show vp_in (nI i + Int32.ofInt 1) L from ix6 hi hL (k := 1) (by decide)) ?_
    iterate 4 (refine zv_step (bLw b L xs) rfl rfl trivial ?_)
    refine zv_sld rfl (show vp_in (nI i + Int32.ofInt 2) L from ix6 hi hL (k := 2) (by decide)) ?_
    iterate 4 (refine zv_step (bLw b L xs) rfl rfl trivial ?_)
    refine zv_sld rfl (show vp_in (nI i + Int32.ofInt 3) L from ix6 hi hL (k := 3) (by decide)) ?_
    refine zv_V3 (bLw b L xs) rfl rfl rfl rfl rfl rfl rfl ⟨rfl, rfl, rfl⟩ ⟨Nat.le_of_ble_eq_true rfl, Nat.le_of_ble_eq_true rfl⟩ hk0 (mMake _ o A J hM.2.2.2.2.2.2.2.2.2.2.2 _ _ _) ?_
    rintro _ _ ⟨o1, A1, R1, rfl, rfl, qm⟩
    have hm := mI_sh hM qm
    have me := mE_sh u qm
    refine zv_world (wXR _ _ _ _ _ _).symm ?_
    iterate 2 (refine zv_step (bLw b L xs) rfl rfl trivial ?_)
    exact kk _ _ _ _ _ _ _ _ (Nat.le_add_right _ _) (Nat.le_add_right _ _) (LI5_fr (d2 := d2) hI hC hSS hc hm ce me dc)
  · have hc := cI_sh (O' := upd (upd O (20 + 10 * s) a) (24 + 10 * s) (nI m)) hC q1 ⟨fun j hj => by rw [upd_ne _ _ (by omega), upd_ne _ _ (by omega)], q3, Or.inr ⟨m, q2, upd_self _ _ _⟩⟩
    have ce := cE_sh (O' := upd (upd O (20 + 10 * s) a) (24 + 10 * s) (nI m)) (P' := P') (s := s) ⟨fun j hj => by rw [upd_ne _ _ (by omega), upd_ne _ _ (by omega)], q3, Or.inr ⟨m, q2, upd_self _ _ _⟩⟩
    have dc := c12_sh (O' := upd (upd O (20 + 10 * s) a) (24 + 10 * s) (nI m)) (P' := P') (s := s) ⟨fun j hj => by rw [upd_ne _ _ (by omega), upd_ne _ _ (by omega)], q3, Or.inr ⟨m, q2, upd_self _ _ _⟩⟩
    refine zv_world (wXR _ _ _ _ _ _) ?_
    iterate 6 (refine zv_step (bLw b L xs) rfl rfl trivial ?_)
    refine zv_sld rfl (show vp_in (nI i + Int32.ofInt 1) L from ix6 hi hL (k := 1) (by decide)) ?_
    iterate 4 (refine zv_step (bLw b L xs) rfl rfl trivial ?_)
    refine zv_sld rfl (show vp_in (nI i + Int32.ofInt 2) L from ix6 hi hL (k := 2) (by decide)) ?_
    iterate 4 (refine zv_step (bLw b L xs) rfl rfl trivial ?_)
    refine zv_sld rfl (show vp_in (nI i + Int32.ofInt 3) L from ix6 hi hL (k := 3) (by decide)) ?_
    refine zv_V3 (bLw b L xs) rfl rfl rfl rfl rfl rfl rfl ⟨rfl, rfl, rfl⟩ ⟨Nat.le_of_ble_eq_true rfl, Nat.le_of_ble_eq_true rfl⟩ hk0 (mMake _ o A J hM.2.2.2.2.2.2.2.2.2.2.2 _ _ _) ?_
    rintro _ _ ⟨o1, A1, R1, rfl, rfl, qm⟩
    have hm := mI_sh hM qm
    have me := mE_sh u qm
    refine zv_world (wXR _ _ _ _ _ _).symm ?_
    iterate 2 (refine zv_step (bLw b L xs) rfl rfl trivial ?_)
    exact kk _ _ _ _ _ _ _ _ (Nat.le_add_right _ _) (Nat.le_add_right _ _) (LI5_fr (d2 := d2) hI hC hSS hc hm ce me dc)
set_option maxHeartbeats 10000000 in
set_option maxRecDepth 100000 in
theorem lop_element {b L : Nat} {xs : Nat → Int32} {i kc ks : Nat} (hi : i + 6 ≤ L) (hL : L ≤ 3072) (hk : kc + 1 ≤ room_1.cells ∧ ks + 6 ≤ room_1.slots) {O : Nat → Int32} {P : Nat → Nat → Int32} {Y : Nat → Nat → Int64} {o : Nat → Int32} {A : Nat → Nat → Int32} {J : Nat → Nat → Int64} (hI : LI5 O P Y o A) {Q : Option Value → zW → Prop} (kk : ∀ (kc' ks' : Nat) (O : Nat → Int32) (P : Nat → Nat → Int32) (Y : Nat → Nat → Int64) (o : Nat → Int32) (A : Nat → Nat → Int32) (J : Nat → Nat → Int64), kc' ≤ kc + 1 → ks' ≤ ks + 6 → LI5 O P Y o A → zV (zLw b L xs) true 0 kc' ks' 1580 (zlw i) [] (wX O P Y (gR o A J)) Q) : zV (zLw b L xs) true 0 kc ks 1417 (zlw i) [] (wX O P Y (gR o A J)) Q := by
  obtain ⟨u, l, d, d2, hC, hM, hkp, hfn, hSS⟩ := LI2_open hI.1
  have hk0 : kc ≤ room_1.cells ∧ ks ≤ room_1.slots := ⟨by omega, by omega⟩
  have hu1 : (O 1).toInt ≤ 120 := by rw [hC.2.1, nI_toInt (by have := hC.1; omega)]; have := hC.1; omega
  iterate 5 (refine zv_step (bLw b L xs) rfl rfl trivial ?_)
  refine zv_sld rfl (show vp_in (nI i + Int32.ofInt 1) L from ix6 hi hL (k := 1) (by decide)) ?_
  iterate 4 (refine zv_step (bLw b L xs) rfl rfl trivial ?_)
  refine zv_sld rfl (show vp_in (nI i + Int32.ofInt 2) L from ix6 hi hL (k := 2) (by decide)) ?_
  iterate 1 (refine zv_step (bLw b L xs) rfl rfl trivial ?_)
  refine zv_help (nP := 4) rfl vL_element ⟨by decide +kernel, by decide +kernel, by decide +kernel⟩ (As := [.ref 0, .int _, .int _, .ref 99]) (rest := []) rfl rfl (by decide) ⟨Nat.le_of_ble_eq_true rfl, Nat.le_of_ble_eq_true rfl⟩ hk (hL_elementF O P Y o A J hC _ _) ?_
  rintro _ _ ⟨⟨R, rfl⟩, O', P', Y', J', rfl, hcf⟩
  have hc := cFr_St hcf
  have ce := cE_Fr hcf.2
  have dc := c12_Fr hcf.2
  refine zv_world (wXR _ _ _ _ _ _) ?_
  iterate 6 (refine zv_step (bLw b L xs) rfl rfl trivial ?_)
  refine zv_sld rfl (show vp_in (nI i + Int32.ofInt 1) L from ix6 hi hL (k := 1) (by decide)) ?_
  iterate 4 (refine zv_step (bLw b L xs) rfl rfl trivial ?_)
  refine zv_sld rfl (show vp_in (nI i + Int32.ofInt 2) L from ix6 hi hL (k := 2) (by decide)) ?_
  refine zv_V2 (bLw b L xs) rfl rfl rfl rfl rfl rfl rfl ⟨rfl, rfl, rfl⟩ ⟨Nat.le_of_ble_eq_true rfl, Nat.le_of_ble_eq_true rfl⟩ hk (mElement _ o A _ hM.2.2.2.2.2.2.2.2.2.2.2 _ _) ?_
  rintro _ _ ⟨R1, t1, rfl, rfl⟩
  have hm := mI_o (o' := upd o 16 t1) hM (fun j a b => upd_ne _ _ a)
  have me := mE_o (o' := upd o 16 t1) A u (fun j a b => upd_ne _ _ a)
  refine zv_world (wXR _ _ _ _ _ _).symm ?_
  iterate 2 (refine zv_step (bLw b L xs) rfl rfl trivial ?_)
  refine zv_locals (l' := zlw i) ?_ (kk _ _ _ _ _ _ _ _ (Nat.le_refl _) (Nat.le_refl _) (LI5_fr (d2 := d2) hI hC hSS hc hm ce me dc))
  simp [zset1, zset2, Value.category]
set_option maxHeartbeats 10000000 in
set_option maxRecDepth 100000 in
theorem lop_copy {b L : Nat} {xs : Nat → Int32} {i kc ks : Nat} (hi : i + 6 ≤ L) (hL : L ≤ 3072) (hk : kc + 1 ≤ room_1.cells ∧ ks + 6 ≤ room_1.slots) {O : Nat → Int32} {P : Nat → Nat → Int32} {Y : Nat → Nat → Int64} {o : Nat → Int32} {A : Nat → Nat → Int32} {J : Nat → Nat → Int64} (hI : LI5 O P Y o A) {Q : Option Value → zW → Prop} (kk : ∀ (kc' ks' : Nat) (O : Nat → Int32) (P : Nat → Nat → Int32) (Y : Nat → Nat → Int64) (o : Nat → Int32) (A : Nat → Nat → Int32) (J : Nat → Nat → Int64), kc' ≤ kc + 1 → ks' ≤ ks + 6 → LI5 O P Y o A → zV (zLw b L xs) true 0 kc' ks' 1580 (zlw i) [] (wX O P Y (gR o A J)) Q) : zV (zLw b L xs) true 0 kc ks 1457 (zlw i) [] (wX O P Y (gR o A J)) Q := by
  obtain ⟨u, l, d, d2, hC, hM, hkp, hfn, hSS⟩ := LI2_open hI.1
  have hk0 : kc ≤ room_1.cells ∧ ks ≤ room_1.slots := ⟨by omega, by omega⟩
  have hu1 : (O 1).toInt ≤ 120 := by rw [hC.2.1, nI_toInt (by have := hC.1; omega)]; have := hC.1; omega
  iterate 5 (refine zv_step (bLw b L xs) rfl rfl trivial ?_)
  refine zv_sld rfl (show vp_in (nI i + Int32.ofInt 1) L from ix6 hi hL (k := 1) (by decide)) ?_
  iterate 4 (refine zv_step (bLw b L xs) rfl rfl trivial ?_)
  refine zv_sld rfl (show vp_in (nI i + Int32.ofInt 2) L from ix6 hi hL (k := 2) (by decide)) ?_
  iterate 4 (refine zv_step (bLw b L xs) rfl rfl trivial ?_)
  refine zv_sld rfl (show vp_in (nI i + Int32.ofInt 3) L from ix6 hi hL (k := 3) (by decide)) ?_
  iterate 4 (refine zv_step (bLw b L xs) rfl rfl trivial ?_)
  refine zv_sld rfl (show vp_in (nI i + Int32.ofInt 4) L from ix6 hi hL (k := 4) (by decide)) ?_
  iterate 4 (refine zv_step (bLw b L xs) rfl rfl trivial ?_)
  refine zv_sld rfl (show vp_in (nI i + Int32.ofInt 5) L from ix6 hi hL (k := 5) (by decide)) ?_
  refine zv_V5 (bLw b L xs) rfl rfl rfl rfl rfl rfl rfl ⟨rfl, rfl, rfl⟩ ⟨Nat.le_of_ble_eq_true rfl, Nat.le_of_ble_eq_true rfl⟩ hk0 (cCopy O P Y (gR o A J) hC.2.2.2.2.2.2.2.2.2.2 _ _ _ _ _) ?_
  rintro _ _ ⟨O', P', R, s, q1, rfl, rfl, q⟩
  have hc := cI_sh hC q1 q
  have ce := cE_sh q
  have dc := c12_sh q
  refine zv_world (wXR _ _ _ _ _ _) ?_
  iterate 6 (refine zv_step (bLw b L xs) rfl rfl trivial ?_)
  refine zv_sld rfl (show vp_in (nI i + Int32.ofInt 1) L from ix6 hi hL (k := 1) (by decide)) ?_
  iterate 4 (refine zv_step (bLw b L xs) rfl rfl trivial ?_)
  refine zv_sld rfl (show vp_in (nI i + Int32.ofInt 2) L from ix6 hi hL (k := 2) (by decide)) ?_
  iterate 4 (refine zv_step (bLw b L xs) rfl rfl trivial ?_)
  refine zv_sld rfl (show vp_in (nI i + Int32.ofInt 3) L from ix6 hi hL (k := 3) (by decide)) ?_
  iterate 4 (refine zv_step (bLw b L xs) rfl rfl trivial ?_)
  refine zv_sld rfl (show vp_in (nI i + Int32.ofInt 4) L from ix6 hi hL (k := 4) (by decide)) ?_
  iterate 4 (refine zv_step (bLw b L xs) rfl rfl trivial ?_)
  refine zv_sld rfl (show vp_in (nI i + Int32.ofInt 5) L from ix6 hi hL (k := 5) (by decide)) ?_
  refine zv_V5 (bLw b L xs) rfl rfl rfl rfl rfl rfl rfl ⟨rfl, rfl, rfl⟩ ⟨Nat.le_of_ble_eq_true rfl, Nat.le_of_ble_eq_true rfl⟩ hk0 (mCopy _ o A J hM.2.2.2.2.2.2.2.2.2.2.2 _ _ _ _ _) ?_
  rintro _ _ ⟨o1, A1, R1, rfl, rfl, qm⟩
  have hm := mI_sh hM qm
  have me := mE_sh u qm
  refine zv_world (wXR _ _ _ _ _ _).symm ?_
  iterate 2 (refine zv_step (bLw b L xs) rfl rfl trivial ?_)
  exact kk _ _ _ _ _ _ _ _ (Nat.le_add_right _ _) (Nat.le_add_right _ _) (LI5_fr (d2 := d2) hI hC hSS hc hm ce me dc)
set_option maxHeartbeats 10000000 in
set_option maxRecDepth 100000 in
theorem lop_weight {b L : Nat} {xs : Nat → Int32} {i kc ks : Nat} (hi : i + 6 ≤ L) (hL : L ≤ 3072) (hk : kc + 1 ≤ room_1.cells ∧ ks + 6 ≤ room_1.slots) {O : Nat → Int32} {P : Nat → Nat → Int32} {Y : Nat → Nat → Int64} {o : Nat → Int32} {A : Nat → Nat → Int32} {J : Nat → Nat → Int64} (hI : LI5 O P Y o A) {Q : Option Value → zW → Prop} (kk : ∀ (kc' ks' : Nat) (O : Nat → Int32) (P : Nat → Nat → Int32) (Y : Nat → Nat → Int64) (o : Nat → Int32) (A : Nat → Nat → Int32) (J : Nat → Nat → Int64), kc' ≤ kc + 1 → ks' ≤ ks + 6 → LI5 O P Y o A → zV (zLw b L xs) true 0 kc' ks' 1580 (zlw i) [] (wX O P Y (gR o A J)) Q) : zV (zLw b L xs) true 0 kc ks 1530 (zlw i) [] (wX O P Y (gR o A J)) Q := by
  obtain ⟨u, l, d, d2, hC, hM, hkp, hfn, hSS⟩ := LI2_open hI.1
  have hk0 : kc ≤ room_1.cells ∧ ks ≤ room_1.slots := ⟨by omega, by omega⟩
  have hu1 : (O 1).toInt ≤ 120 := by rw [hC.2.1, nI_toInt (by have := hC.1; omega)]; have := hC.1; omega
  iterate 5 (refine zv_step (bLw b L xs) rfl rfl trivial ?_)
  refine zv_sld rfl (show vp_in (nI i + Int32.ofInt 1) L from ix6 hi hL (k := 1) (by decide)) ?_
  refine zv_V1 (bLw b L xs) rfl rfl rfl rfl rfl rfl rfl ⟨rfl, rfl, rfl⟩ ⟨Nat.le_of_ble_eq_true rfl, Nat.le_of_ble_eq_true rfl⟩ hk0 (cWeight O P Y (gR o A J) _) ?_
  rintro _ _ ⟨rfl, v, rfl⟩
  have hc := cI_id hC
  have ce := cE_id O P
  have dc := (rfl : P 12 = P 12)
  refine zv_world (wXR _ _ _ _ _ _) ?_
  iterate 6 (refine zv_step (bLw b L xs) rfl rfl trivial ?_)
  refine zv_sld rfl (show vp_in (nI i + Int32.ofInt 1) L from ix6 hi hL (k := 1) (by decide)) ?_
  refine zv_V1 (bLw b L xs) rfl rfl rfl rfl rfl rfl rfl ⟨rfl, rfl, rfl⟩ ⟨Nat.le_of_ble_eq_true rfl, Nat.le_of_ble_eq_true rfl⟩ hk0 (mWeight _ o A J _) ?_
  rintro _ _ ⟨rfl, v1, rfl⟩
  have hm := mI_id hM
  have me := mE_id u o A
  refine zv_world (wXR _ _ _ _ _ _).symm ?_
  iterate 2 (refine zv_step (bLw b L xs) rfl rfl trivial ?_)
  exact kk _ _ _ _ _ _ _ _ (Nat.le_add_right _ _) (Nat.le_add_right _ _) (LI5_fr (d2 := d2) hI hC hSS hc hm ce me dc)
set_option maxHeartbeats 10000000 in
set_option maxRecDepth 100000 in
theorem lop_toss {b L : Nat} {xs : Nat → Int32} {i kc ks : Nat} (hi : i + 6 ≤ L) (hL : L ≤ 3072) (hk : kc + 1 ≤ room_1.cells ∧ ks + 6 ≤ room_1.slots) {O : Nat → Int32} {P : Nat → Nat → Int32} {Y : Nat → Nat → Int64} {o : Nat → Int32} {A : Nat → Nat → Int32} {J : Nat → Nat → Int64} (hI : LI5 O P Y o A) {Q : Option Value → zW → Prop} (kk : ∀ (kc' ks' : Nat) (O : Nat → Int32) (P : Nat → Nat → Int32) (Y : Nat → Nat → Int64) (o : Nat → Int32) (A : Nat → Nat → Int32) (J : Nat → Nat → Int64), kc' ≤ kc + 1 → ks' ≤ ks + 6 → LI5 O P Y o A → zV (zLw b L xs) true 0 kc' ks' 1580 (zlw i) [] (wX O P Y (gR o A J)) Q) : zV (zLw b L xs) true 0 kc ks 1555 (zlw i) [] (wX O P Y (gR o A J)) Q := by
  obtain ⟨u, l, d, d2, hC, hM, hkp, hfn, hSS⟩ := LI2_open hI.1
  have hk0 : kc ≤ room_1.cells ∧ ks ≤ room_1.slots := ⟨by omega, by omega⟩
  have hu1 : (O 1).toInt ≤ 120 := by rw [hC.2.1, nI_toInt (by have := hC.1; omega)]; have := hC.1; omega
  iterate 5 (refine zv_step (bLw b L xs) rfl rfl trivial ?_)
  refine zv_sld rfl (show vp_in (nI i + Int32.ofInt 1) L from ix6 hi hL (k := 1) (by decide)) ?_
  refine zv_V1 (bLw b L xs) rfl rfl rfl rfl rfl rfl rfl ⟨rfl, rfl, rfl⟩ ⟨Nat.le_of_ble_eq_true rfl, Nat.le_of_ble_eq_true rfl⟩ hk0 (cToss O P Y (gR o A J) _) ?_
  rintro _ _ ⟨rfl, v, rfl⟩
  have hc := cI_id hC
  have ce := cE_id O P
  have dc := (rfl : P 12 = P 12)
  refine zv_world (wXR _ _ _ _ _ _) ?_
  iterate 6 (refine zv_step (bLw b L xs) rfl rfl trivial ?_)
  refine zv_sld rfl (show vp_in (nI i + Int32.ofInt 1) L from ix6 hi hL (k := 1) (by decide)) ?_
  refine zv_V1 (bLw b L xs) rfl rfl rfl rfl rfl rfl rfl ⟨rfl, rfl, rfl⟩ ⟨Nat.le_of_ble_eq_true rfl, Nat.le_of_ble_eq_true rfl⟩ hk0 (mToss _ o A J _) ?_
  rintro _ _ ⟨rfl, v1, rfl⟩
  have hm := mI_id hM
  have me := mE_id u o A
  refine zv_world (wXR _ _ _ _ _ _).symm ?_
  iterate 2 (refine zv_step (bLw b L xs) rfl rfl trivial ?_)
  exact kk _ _ _ _ _ _ _ _ (Nat.le_add_right _ _) (Nat.le_add_right _ _) (LI5_fr (d2 := d2) hI hC hSS hc hm ce me dc)
