set_option maxHeartbeats 1000000 in
set_option maxRecDepth 20000 in
theorem cLeaf (O : Nat → Int32) (Y : Nat → Nat → Int64) (g : Nat → zC) {u : Nat} {P : Nat → Nat → Int32} (hu : u ≤ 120) (hp : pgB 1 u P) (k v : Int32) : zK 3 zX6_leaf [.ref 0, .int k, .int v] (wX (upd O 1 (nI u)) P Y g) (fun r w' => ∃ (u' : Nat) (P' : Nat → Nat → Int32) (R : Int32), r = some (.int R) ∧ w' = wX (upd O 1 (nI u')) P' Y g ∧ pgX 1 u P u' P') := by
  refine zK_of qX6_leaf (by decide +kernel) rfl ?_
  iterate 2 (refine zv_step (bX6_leaf 3) rfl rfl trivial ?_)
  refine zv_ifb (fun h1 => ?_) (fun h1 => ?_)
  · have h1 : k = 0 := h1
    subst h1
    iterate 2 (refine zv_step (bX6_leaf 3) rfl rfl trivial ?_)
    refine zv_ifb (fun h3 => ?_) (fun h3 => ?_)
    · iterate 1 (refine zv_step (bX6_leaf 3) rfl rfl trivial ?_)
      exact zv_iret (bX6_leaf 3) rfl (Or.inl rfl) (Nat.zero_le _) (Nat.zero_le _) ⟨u, P, _, rfl, rfl, pgX_refl hu hp⟩
    · iterate 3 (refine zv_step (bX6_leaf 3) rfl rfl trivial ?_)
      refine zv_iff (by decide) ?_
      iterate 3 (refine zv_step (bX6_leaf 3) rfl rfl trivial ?_)
      refine zv_ifb (fun h4 => ?_) (fun h4 => ?_)
      · iterate 2 (refine zv_step (bX6_leaf 3) rfl rfl trivial ?_)
        refine zv_V0 (bX6_leaf 3) rfl rfl rfl rfl rfl rfl rfl ⟨rfl, rfl, rfl⟩ ⟨by decide, by decide⟩ ⟨Nat.zero_le _, Nat.zero_le _⟩ (pFull1 (upd O 1 (nI u)) P Y g) ?_
        rintro _ _ ⟨rfl, ⟨hf, rfl⟩ | ⟨hf, rfl⟩⟩
        · iterate 1 (refine zv_step (bX6_leaf 3) rfl rfl trivial ?_)
          refine zv_iff (by decide) ?_
          iterate 2 (refine zv_step (bX6_leaf 3) rfl rfl trivial ?_)
          exact zv_iret (bX6_leaf 3) rfl (Or.inl rfl) (Nat.zero_le _) (Nat.zero_le _) ⟨u, P, _, rfl, rfl, pgX_refl hu hp⟩
        · iterate 1 (refine zv_step (bX6_leaf 3) rfl rfl trivial ?_)
          refine zv_ift (by decide) ?_
          iterate 6 (refine zv_step (bX6_leaf 3) rfl rfl trivial ?_)
          rcases Nat.lt_or_ge u 120 with hlt | hge
          · refine zv_V4 (bX6_leaf 3) rfl rfl rfl rfl rfl rfl rfl ⟨rfl, rfl, rfl⟩ ⟨by show 2 + 1 ≤ 3; omega, by show 8 + (6 + 11) + 64 * (2) ≤ 64 * (3); omega⟩ ⟨Nat.zero_le _, Nat.zero_le _⟩ (pPut1 (upd O 1 (nI u)) P Y g (show (nI u).toInt ≤ 120 by rw [nI_toInt (by omega)]; omega) hlt rfl _ _ _ _) ?_
            rintro r9 w9 hpo
            obtain ⟨P9, rfl, rfl, hX9, hZ9⟩ := putYes1 hlt hp (show 0 < 10 by decide) rfl (Or.inl rfl) (Or.inl rfl) (by rw [szq_m1]; decide) hpo
            exact zv_iret (bX6_leaf 3) rfl (Or.inl rfl) (Nat.zero_le _) (Nat.zero_le _) ⟨_, P9, _, rfl, rfl, hX9⟩
          · refine zv_V4 (bX6_leaf 3) rfl rfl rfl rfl rfl rfl rfl ⟨rfl, rfl, rfl⟩ ⟨by show 2 + 1 ≤ 3; omega, by show 8 + (6 + 11) + 64 * (2) ≤ 64 * (3); omega⟩ ⟨Nat.zero_le _, Nat.zero_le _⟩ (pPutNo1 (upd O 1 (nI u)) P Y g (show 120 ≤ (nI u).toInt by rw [nI_toInt (by omega)]; omega) _ _ _ _) ?_
            rintro _ _ ⟨rfl, rfl⟩
            exact zv_iret (bX6_leaf 3) rfl (Or.inl rfl) (Nat.zero_le _) (Nat.zero_le _) ⟨u, P, _, rfl, rfl, pgX_refl hu hp⟩
      · iterate 1 (refine zv_step (bX6_leaf 3) rfl rfl trivial ?_)
        exact zv_iret (bX6_leaf 3) rfl (Or.inl rfl) (Nat.zero_le _) (Nat.zero_le _) ⟨u, P, _, rfl, rfl, pgX_refl hu hp⟩
  · iterate 3 (refine zv_step (bX6_leaf 3) rfl rfl trivial ?_)
    refine zv_ifb (fun h2 => ?_) (fun h2 => ?_)
    · have h2 : k = Int32.ofInt 1 := h2
      subst h2
      iterate 2 (refine zv_step (bX6_leaf 3) rfl rfl trivial ?_)
      refine zv_ifb (fun h3 => ?_) (fun h3 => ?_)
      · iterate 1 (refine zv_step (bX6_leaf 3) rfl rfl trivial ?_)
        exact zv_iret (bX6_leaf 3) rfl (Or.inl rfl) (Nat.zero_le _) (Nat.zero_le _) ⟨u, P, _, rfl, rfl, pgX_refl hu hp⟩
      · iterate 3 (refine zv_step (bX6_leaf 3) rfl rfl trivial ?_)
        refine zv_ift (by decide) ?_
        iterate 2 (refine zv_step (bX6_leaf 3) rfl rfl trivial ?_)
        refine zv_ifb (fun h4 => ?_) (fun h4 => ?_)
        · iterate 2 (refine zv_step (bX6_leaf 3) rfl rfl trivial ?_)
          refine zv_V0 (bX6_leaf 3) rfl rfl rfl rfl rfl rfl rfl ⟨rfl, rfl, rfl⟩ ⟨by decide, by decide⟩ ⟨Nat.zero_le _, Nat.zero_le _⟩ (pFull1 (upd O 1 (nI u)) P Y g) ?_
          rintro _ _ ⟨rfl, ⟨hf, rfl⟩ | ⟨hf, rfl⟩⟩
          · iterate 1 (refine zv_step (bX6_leaf 3) rfl rfl trivial ?_)
            refine zv_iff (by decide) ?_
            iterate 2 (refine zv_step (bX6_leaf 3) rfl rfl trivial ?_)
            exact zv_iret (bX6_leaf 3) rfl (Or.inl rfl) (Nat.zero_le _) (Nat.zero_le _) ⟨u, P, _, rfl, rfl, pgX_refl hu hp⟩
          · iterate 1 (refine zv_step (bX6_leaf 3) rfl rfl trivial ?_)
            refine zv_ift (by decide) ?_
            iterate 6 (refine zv_step (bX6_leaf 3) rfl rfl trivial ?_)
            rcases Nat.lt_or_ge u 120 with hlt | hge
            · refine zv_V4 (bX6_leaf 3) rfl rfl rfl rfl rfl rfl rfl ⟨rfl, rfl, rfl⟩ ⟨by show 2 + 1 ≤ 3; omega, by show 8 + (6 + 11) + 64 * (2) ≤ 64 * (3); omega⟩ ⟨Nat.zero_le _, Nat.zero_le _⟩ (pPut1 (upd O 1 (nI u)) P Y g (show (nI u).toInt ≤ 120 by rw [nI_toInt (by omega)]; omega) hlt rfl _ _ _ _) ?_
              rintro r9 w9 hpo
              obtain ⟨P9, rfl, rfl, hX9, hZ9⟩ := putYes1 hlt hp (show 1 < 10 by decide) rfl (Or.inl rfl) (Or.inl rfl) (by rw [szq_m1]; decide) hpo
              exact zv_iret (bX6_leaf 3) rfl (Or.inl rfl) (Nat.zero_le _) (Nat.zero_le _) ⟨_, P9, _, rfl, rfl, hX9⟩
            · refine zv_V4 (bX6_leaf 3) rfl rfl rfl rfl rfl rfl rfl ⟨rfl, rfl, rfl⟩ ⟨by show 2 + 1 ≤ 3; omega, by show 8 + (6 + 11) + 64 * (2) ≤ 64 * (3); omega⟩ ⟨Nat.zero_le _, Nat.zero_le _⟩ (pPutNo1 (upd O 1 (nI u)) P Y g (show 120 ≤ (nI u).toInt by rw [nI_toInt (by omega)]; omega) _ _ _ _) ?_
              rintro _ _ ⟨rfl, rfl⟩
              exact zv_iret (bX6_leaf 3) rfl (Or.inl rfl) (Nat.zero_le _) (Nat.zero_le _) ⟨u, P, _, rfl, rfl, pgX_refl hu hp⟩
        · iterate 1 (refine zv_step (bX6_leaf 3) rfl rfl trivial ?_)
          exact zv_iret (bX6_leaf 3) rfl (Or.inl rfl) (Nat.zero_le _) (Nat.zero_le _) ⟨u, P, _, rfl, rfl, pgX_refl hu hp⟩
    · iterate 1 (refine zv_step (bX6_leaf 3) rfl rfl trivial ?_)
      exact zv_iret (bX6_leaf 3) rfl (Or.inl rfl) (Nat.zero_le _) (Nat.zero_le _) ⟨u, P, _, rfl, rfl, pgX_refl hu hp⟩
theorem kn_of {k : Int32} (h1 : ¬ k < Int32.ofInt 2) (h2 : ¬ c8 9 < k) : ∃ kn : Nat, kn < 10 ∧ k = nI kn := by
  rw [Int32.lt_iff_toInt_lt, show (Int32.ofInt 2).toInt = 2 from rfl] at h1
  rw [Int32.lt_iff_toInt_lt, i8c 9 (by decide)] at h2
  refine ⟨k.toInt.toNat, by omega, ?_⟩
  rw [← Int32.toInt_inj, nI_toInt (by omega)]
  omega
theorem okp_of {u : Nat} {x : Int32} (hu : u ≤ 120) (h : 0 ≤ x.toInt ∧ x.toInt < (nI u).toInt) : okp u x := by
  rw [nI_toInt (by omega)] at h
  refine Or.inr ⟨x.toInt.toNat, by omega, ?_⟩
  rw [← Int32.toInt_inj, nI_toInt (by omega)]
  omega
theorem sz_of {u : Nat} {P : Nat → Nat → Int32} {x : Int32} {r : Option Value} (hu : u ≤ 120) (hp : pgB 1 u P) (hx : okp u x) (h : ((0 ≤ x.toInt ∧ x.toInt < (nI u).toInt) ∧ r = some (.int (P 6 x.toNatClampNeg))) ∨ (¬ (0 ≤ x.toInt ∧ x.toInt < (nI u).toInt) ∧ r = some (.int 0))) : r = some (.int (nI (szq (P (1 + 5)) x))) ∧ szq (P (1 + 5)) x ≤ 40 := by
  rcases hx with rfl | ⟨j, hj, rfl⟩
  · rw [szq_m1]
    rcases h with ⟨h, -⟩ | ⟨-, h⟩
    · exact absurd h.1 (by decide)
    · exact ⟨h, by decide⟩
  · obtain ⟨-, -, -, z, hz, z1, z2, -⟩ := hp j hj
    rw [szq_nI _ (by omega), hz, nI_clamp (by omega)]
    rcases h with ⟨-, h⟩ | ⟨h, -⟩
    · refine ⟨?_, z2⟩
      rw [h, nI_clamp (by omega)]
      exact congrArg (fun q => some (Value.int q)) hz
    · refine absurd ⟨?_, ?_⟩ h
      · rw [nI_toInt (by omega)]; omega
      · rw [nI_toInt (by omega), nI_toInt (by omega)]; omega
set_option maxHeartbeats 1000000 in
set_option maxRecDepth 20000 in
theorem cNodeT (O : Nat → Int32) (Y : Nat → Nat → Int64) (g : Nat → zC) {u : Nat} {P : Nat → Nat → Int32} (hu : u ≤ 120) (hp : pgB 1 u P) {kn : Nat} {k x y2 : Int32} (hk : kn < 10) (ek : k = nI kn) (hx : okp u x) (hy : okp u y2) (y e : Int32) {n0 : Nat} : zV (zMo 3 zX6_node) false n0 0 0 86 [(5, .int y2), (4, .int e), (0, .ref 0), (1, .int k), (2, .int x), (3, .int y)] [] (wX (upd O 1 (nI u)) P Y g) (fun r w' => ∃ (u' : Nat) (P' : Nat → Nat → Int32) (R : Int32), r = some (.int R) ∧ w' = wX (upd O 1 (nI u')) P' Y g ∧ pgX 1 u P u' P') := by
  iterate 4 (refine zv_step (bX6_node 3) rfl rfl trivial ?_)
  refine zv_V1 (bX6_node 3) rfl rfl rfl rfl rfl rfl rfl ⟨rfl, rfl, rfl⟩ ⟨by decide, by decide⟩ ⟨Nat.zero_le _, Nat.zero_le _⟩ (pSizeOf1 (upd O 1 (nI u)) P Y g (show (nI u).toInt ≤ 120 by rw [nI_toInt (by omega)]; omega) _) ?_
  rintro r _ ⟨rfl, hr⟩
  obtain ⟨rfl, hz1⟩ := sz_of hu hp hx hr
  iterate 4 (refine zv_step (bX6_node 3) rfl rfl trivial ?_)
  refine zv_V1 (bX6_node 3) rfl rfl rfl rfl rfl rfl rfl ⟨rfl, rfl, rfl⟩ ⟨by decide, by decide⟩ ⟨Nat.zero_le _, Nat.zero_le _⟩ (pSizeOf1 (upd O 1 (nI u)) P Y g (show (nI u).toInt ≤ 120 by rw [nI_toInt (by omega)]; omega) _) ?_
  rintro r _ ⟨rfl, hr⟩
  obtain ⟨rfl, hz2⟩ := sz_of hu hp hy hr
  iterate 3 (refine zv_step (bX6_node 3) rfl rfl trivial ?_)
  refine zv_ifb (fun hc => ?_) (fun hc => ?_)
  · have hc : Int32.ofInt 1 + nI (szq (P (1 + 5)) x) + nI (szq (P (1 + 5)) y2) ≤ c8 40 := hc
    rw [show Int32.ofInt 1 = nI 1 from rfl, nI_plus, nI_plus, show c8 40 = nI 40 from rfl, nI_leI (by omega) (by omega)] at hc
    iterate 6 (refine zv_step (bX6_node 3) rfl rfl trivial ?_)
    refine zv_ifb (fun h9 => ?_) (fun h9 => ?_)
    · iterate 3 (refine zv_step (bX6_node 3) rfl rfl trivial ?_)
      rcases Nat.lt_or_ge u 120 with hlt | hge
      · refine zv_V4 (bX6_node 3) rfl rfl rfl rfl rfl rfl rfl ⟨rfl, rfl, rfl⟩ ⟨by show 2 + 1 ≤ 3; omega, by show 8 + (6 + 11) + 64 * (2) ≤ 64 * (3); omega⟩ ⟨Nat.zero_le _, Nat.zero_le _⟩ (pPut1 (upd O 1 (nI u)) P Y g (show (nI u).toInt ≤ 120 by rw [nI_toInt (by omega)]; omega) hlt rfl _ _ _ _) ?_
        rintro r9 w9 hpo
        obtain ⟨P9, rfl, rfl, hX9, hZ9⟩ := putYes1 hlt hp hk ek hx hy (by omega) hpo
        exact zv_iret (bX6_node 3) rfl (Or.inl rfl) (Nat.zero_le _) (Nat.zero_le _) ⟨_, P9, _, rfl, rfl, hX9⟩
      · refine zv_V4 (bX6_node 3) rfl rfl rfl rfl rfl rfl rfl ⟨rfl, rfl, rfl⟩ ⟨by show 2 + 1 ≤ 3; omega, by show 8 + (6 + 11) + 64 * (2) ≤ 64 * (3); omega⟩ ⟨Nat.zero_le _, Nat.zero_le _⟩ (pPutNo1 (upd O 1 (nI u)) P Y g (show 120 ≤ (nI u).toInt by rw [nI_toInt (by omega)]; omega) _ _ _ _) ?_
        rintro _ _ ⟨rfl, rfl⟩
        exact zv_iret (bX6_node 3) rfl (Or.inl rfl) (Nat.zero_le _) (Nat.zero_le _) ⟨u, P, _, rfl, rfl, pgX_refl hu hp⟩
    · iterate 4 (refine zv_step (bX6_node 3) rfl rfl trivial ?_)
      rcases Nat.lt_or_ge u 120 with hlt | hge
      · refine zv_V4 (bX6_node 3) rfl rfl rfl rfl rfl rfl rfl ⟨rfl, rfl, rfl⟩ ⟨by show 2 + 1 ≤ 3; omega, by show 8 + (6 + 11) + 64 * (2) ≤ 64 * (3); omega⟩ ⟨Nat.zero_le _, Nat.zero_le _⟩ (pPut1 (upd O 1 (nI u)) P Y g (show (nI u).toInt ≤ 120 by rw [nI_toInt (by omega)]; omega) hlt rfl _ _ _ _) ?_
        rintro r9 w9 hpo
        obtain ⟨P9, rfl, rfl, hX9, hZ9⟩ := putYes1 hlt hp hk ek hx hy (by omega) hpo
        exact zv_iret (bX6_node 3) rfl (Or.inl rfl) (Nat.zero_le _) (Nat.zero_le _) ⟨_, P9, _, rfl, rfl, hX9⟩
      · refine zv_V4 (bX6_node 3) rfl rfl rfl rfl rfl rfl rfl ⟨rfl, rfl, rfl⟩ ⟨by show 2 + 1 ≤ 3; omega, by show 8 + (6 + 11) + 64 * (2) ≤ 64 * (3); omega⟩ ⟨Nat.zero_le _, Nat.zero_le _⟩ (pPutNo1 (upd O 1 (nI u)) P Y g (show 120 ≤ (nI u).toInt by rw [nI_toInt (by omega)]; omega) _ _ _ _) ?_
        rintro _ _ ⟨rfl, rfl⟩
        exact zv_iret (bX6_node 3) rfl (Or.inl rfl) (Nat.zero_le _) (Nat.zero_le _) ⟨u, P, _, rfl, rfl, pgX_refl hu hp⟩
  · iterate 1 (refine zv_step (bX6_node 3) rfl rfl trivial ?_)
    exact zv_iret (bX6_node 3) rfl (Or.inl rfl) (Nat.zero_le _) (Nat.zero_le _) ⟨u, P, _, rfl, rfl, pgX_refl hu hp⟩
set_option maxHeartbeats 1000000 in
set_option maxRecDepth 20000 in
theorem cNode (O : Nat → Int32) (Y : Nat → Nat → Int64) (g : Nat → zC) {u : Nat} {P : Nat → Nat → Int32} (hu : u ≤ 120) (hp : pgB 1 u P) (k x y : Int32) : zK 3 zX6_node [.ref 0, .int k, .int x, .int y] (wX (upd O 1 (nI u)) P Y g) (fun r w' => ∃ (u' : Nat) (P' : Nat → Nat → Int32) (R : Int32), r = some (.int R) ∧ w' = wX (upd O 1 (nI u')) P' Y g ∧ pgX 1 u P u' P') := by
  refine zK_of qX6_node (by decide +kernel) rfl ?_
  iterate 3 (refine zv_step (bX6_node 3) rfl rfl trivial ?_)
  refine zv_ifb (fun h1 => ?_) (fun h1 => ?_)
  · iterate 1 (refine zv_step (bX6_node 3) rfl rfl trivial ?_)
    exact zv_iret (bX6_node 3) rfl (Or.inl rfl) (Nat.zero_le _) (Nat.zero_le _) ⟨u, P, _, rfl, rfl, pgX_refl hu hp⟩
  · iterate 3 (refine zv_step (bX6_node 3) rfl rfl trivial ?_)
    refine zv_ifb (fun h2 => ?_) (fun h2 => ?_)
    · iterate 1 (refine zv_step (bX6_node 3) rfl rfl trivial ?_)
      exact zv_iret (bX6_node 3) rfl (Or.inl rfl) (Nat.zero_le _) (Nat.zero_le _) ⟨u, P, _, rfl, rfl, pgX_refl hu hp⟩
    · obtain ⟨kn, hk, ek⟩ := kn_of h1 h2
      iterate 3 (refine zv_step (bX6_node 3) rfl rfl trivial ?_)
      refine zv_V1 (bX6_node 3) rfl rfl rfl rfl rfl rfl rfl ⟨rfl, rfl, rfl⟩ ⟨by decide, by decide⟩ ⟨Nat.zero_le _, Nat.zero_le _⟩ (pHas1 (upd O 1 (nI u)) P Y g _) ?_
      rintro _ _ ⟨rfl, ⟨hx, rfl⟩ | ⟨hx, rfl⟩⟩
      · iterate 1 (refine zv_step (bX6_node 3) rfl rfl trivial ?_)
        refine zv_ift (by decide) ?_
        iterate 1 (refine zv_step (bX6_node 3) rfl rfl trivial ?_)
        refine zv_S1 (bX6_node 3) rfl rfl rfl rfl ⟨rfl, rfl, rfl⟩ ⟨by decide, by decide⟩ ⟨Nat.zero_le _, Nat.zero_le _⟩ (hX1_isPair _ _) ?_
        rintro _ _ ⟨rfl, ⟨hpr, rfl⟩ | ⟨hpr, rfl⟩⟩
        · iterate 3 (refine zv_step (bX6_node 3) rfl rfl trivial ?_)
          refine zv_iff (by decide) ?_
          iterate 3 (refine zv_step (bX6_node 3) rfl rfl trivial ?_)
          refine zv_V1 (bX6_node 3) rfl rfl rfl rfl rfl rfl rfl ⟨rfl, rfl, rfl⟩ ⟨by decide, by decide⟩ ⟨Nat.zero_le _, Nat.zero_le _⟩ (pHas1 (upd O 1 (nI u)) P Y g _) ?_
          rintro _ _ ⟨rfl, ⟨hy, rfl⟩ | ⟨hy, rfl⟩⟩
          · iterate 1 (refine zv_step (bX6_node 3) rfl rfl trivial ?_)
            refine zv_iff (by decide) ?_
            iterate 3 (refine zv_step (bX6_node 3) rfl rfl trivial ?_)
            refine zv_ifb (fun h5 => ?_) (fun h5 => ?_)
            · iterate 2 (refine zv_step (bX6_node 3) rfl rfl trivial ?_)
              refine zv_V0 (bX6_node 3) rfl rfl rfl rfl rfl rfl rfl ⟨rfl, rfl, rfl⟩ ⟨by decide, by decide⟩ ⟨Nat.zero_le _, Nat.zero_le _⟩ (pFull1 (upd O 1 (nI u)) P Y g) ?_
              rintro _ _ ⟨rfl, ⟨hf, rfl⟩ | ⟨hf, rfl⟩⟩
              · iterate 1 (refine zv_step (bX6_node 3) rfl rfl trivial ?_)
                refine zv_iff (by decide) ?_
                iterate 1 (refine zv_step (bX6_node 3) rfl rfl trivial ?_)
                exact zv_iret (bX6_node 3) rfl (Or.inl rfl) (Nat.zero_le _) (Nat.zero_le _) ⟨u, P, _, rfl, rfl, pgX_refl hu hp⟩
              · iterate 1 (refine zv_step (bX6_node 3) rfl rfl trivial ?_)
                refine zv_ift (by decide) ?_
                iterate 2 (refine zv_step (bX6_node 3) rfl rfl trivial ?_)
                refine zv_iff (by decide) ?_
                iterate 3 (refine zv_step (bX6_node 3) rfl rfl trivial ?_)
                exact cNodeT O Y g hu hp hk ek (okp_of hu hx) (okp_of hu hy) _ _
            · iterate 1 (refine zv_step (bX6_node 3) rfl rfl trivial ?_)
              refine zv_S1 (bX6_node 3) rfl rfl rfl rfl ⟨rfl, rfl, rfl⟩ ⟨by decide, by decide⟩ ⟨Nat.zero_le _, Nat.zero_le _⟩ (hX6_isLetter _ _) ?_
              rintro _ _ ⟨rfl, ⟨hl, rfl⟩ | ⟨hl, rfl⟩⟩
              · iterate 1 (refine zv_step (bX6_node 3) rfl rfl trivial ?_)
                refine zv_ift (by decide) ?_
                iterate 2 (refine zv_step (bX6_node 3) rfl rfl trivial ?_)
                refine zv_V0 (bX6_node 3) rfl rfl rfl rfl rfl rfl rfl ⟨rfl, rfl, rfl⟩ ⟨by decide, by decide⟩ ⟨Nat.zero_le _, Nat.zero_le _⟩ (pFull1 (upd O 1 (nI u)) P Y g) ?_
                rintro _ _ ⟨rfl, ⟨hf, rfl⟩ | ⟨hf, rfl⟩⟩
                · iterate 1 (refine zv_step (bX6_node 3) rfl rfl trivial ?_)
                  refine zv_iff (by decide) ?_
                  iterate 1 (refine zv_step (bX6_node 3) rfl rfl trivial ?_)
                  exact zv_iret (bX6_node 3) rfl (Or.inl rfl) (Nat.zero_le _) (Nat.zero_le _) ⟨u, P, _, rfl, rfl, pgX_refl hu hp⟩
                · iterate 1 (refine zv_step (bX6_node 3) rfl rfl trivial ?_)
                  refine zv_ift (by decide) ?_
                  iterate 2 (refine zv_step (bX6_node 3) rfl rfl trivial ?_)
                  refine zv_iff (by decide) ?_
                  iterate 3 (refine zv_step (bX6_node 3) rfl rfl trivial ?_)
                  exact cNodeT O Y g hu hp hk ek (okp_of hu hx) (okp_of hu hy) _ _
              · iterate 1 (refine zv_step (bX6_node 3) rfl rfl trivial ?_)
                refine zv_iff (by decide) ?_
                iterate 1 (refine zv_step (bX6_node 3) rfl rfl trivial ?_)
                exact zv_iret (bX6_node 3) rfl (Or.inl rfl) (Nat.zero_le _) (Nat.zero_le _) ⟨u, P, _, rfl, rfl, pgX_refl hu hp⟩
          · iterate 1 (refine zv_step (bX6_node 3) rfl rfl trivial ?_)
            refine zv_ift (by decide) ?_
            iterate 1 (refine zv_step (bX6_node 3) rfl rfl trivial ?_)
            exact zv_iret (bX6_node 3) rfl (Or.inl rfl) (Nat.zero_le _) (Nat.zero_le _) ⟨u, P, _, rfl, rfl, pgX_refl hu hp⟩
        · iterate 3 (refine zv_step (bX6_node 3) rfl rfl trivial ?_)
          refine zv_ift (by decide) ?_
          iterate 3 (refine zv_step (bX6_node 3) rfl rfl trivial ?_)
          refine zv_ifb (fun h5 => ?_) (fun h5 => ?_)
          · iterate 2 (refine zv_step (bX6_node 3) rfl rfl trivial ?_)
            refine zv_V0 (bX6_node 3) rfl rfl rfl rfl rfl rfl rfl ⟨rfl, rfl, rfl⟩ ⟨by decide, by decide⟩ ⟨Nat.zero_le _, Nat.zero_le _⟩ (pFull1 (upd O 1 (nI u)) P Y g) ?_
            rintro _ _ ⟨rfl, ⟨hf, rfl⟩ | ⟨hf, rfl⟩⟩
            · iterate 1 (refine zv_step (bX6_node 3) rfl rfl trivial ?_)
              refine zv_iff (by decide) ?_
              iterate 1 (refine zv_step (bX6_node 3) rfl rfl trivial ?_)
              exact zv_iret (bX6_node 3) rfl (Or.inl rfl) (Nat.zero_le _) (Nat.zero_le _) ⟨u, P, _, rfl, rfl, pgX_refl hu hp⟩
            · iterate 1 (refine zv_step (bX6_node 3) rfl rfl trivial ?_)
              refine zv_ift (by decide) ?_
              iterate 2 (refine zv_step (bX6_node 3) rfl rfl trivial ?_)
              refine zv_ift (by decide) ?_
              iterate 2 (refine zv_step (bX6_node 3) rfl rfl trivial ?_)
              exact cNodeT O Y g hu hp hk ek (okp_of hu hx) (Or.inl rfl) _ _
          · iterate 1 (refine zv_step (bX6_node 3) rfl rfl trivial ?_)
            refine zv_S1 (bX6_node 3) rfl rfl rfl rfl ⟨rfl, rfl, rfl⟩ ⟨by decide, by decide⟩ ⟨Nat.zero_le _, Nat.zero_le _⟩ (hX6_isLetter _ _) ?_
            rintro _ _ ⟨rfl, ⟨hl, rfl⟩ | ⟨hl, rfl⟩⟩
            · iterate 1 (refine zv_step (bX6_node 3) rfl rfl trivial ?_)
              refine zv_ift (by decide) ?_
              iterate 2 (refine zv_step (bX6_node 3) rfl rfl trivial ?_)
              refine zv_V0 (bX6_node 3) rfl rfl rfl rfl rfl rfl rfl ⟨rfl, rfl, rfl⟩ ⟨by decide, by decide⟩ ⟨Nat.zero_le _, Nat.zero_le _⟩ (pFull1 (upd O 1 (nI u)) P Y g) ?_
              rintro _ _ ⟨rfl, ⟨hf, rfl⟩ | ⟨hf, rfl⟩⟩
              · iterate 1 (refine zv_step (bX6_node 3) rfl rfl trivial ?_)
                refine zv_iff (by decide) ?_
                iterate 1 (refine zv_step (bX6_node 3) rfl rfl trivial ?_)
                exact zv_iret (bX6_node 3) rfl (Or.inl rfl) (Nat.zero_le _) (Nat.zero_le _) ⟨u, P, _, rfl, rfl, pgX_refl hu hp⟩
              · iterate 1 (refine zv_step (bX6_node 3) rfl rfl trivial ?_)
                refine zv_ift (by decide) ?_
                iterate 2 (refine zv_step (bX6_node 3) rfl rfl trivial ?_)
                refine zv_ift (by decide) ?_
                iterate 2 (refine zv_step (bX6_node 3) rfl rfl trivial ?_)
                exact cNodeT O Y g hu hp hk ek (okp_of hu hx) (Or.inl rfl) _ _
            · iterate 1 (refine zv_step (bX6_node 3) rfl rfl trivial ?_)
              refine zv_iff (by decide) ?_
              iterate 1 (refine zv_step (bX6_node 3) rfl rfl trivial ?_)
              exact zv_iret (bX6_node 3) rfl (Or.inl rfl) (Nat.zero_le _) (Nat.zero_le _) ⟨u, P, _, rfl, rfl, pgX_refl hu hp⟩
      · iterate 1 (refine zv_step (bX6_node 3) rfl rfl trivial ?_)
        refine zv_iff (by decide) ?_
        iterate 1 (refine zv_step (bX6_node 3) rfl rfl trivial ?_)
        exact zv_iret (bX6_node 3) rfl (Or.inl rfl) (Nat.zero_le _) (Nat.zero_le _) ⟨u, P, _, rfl, rfl, pgX_refl hu hp⟩
theorem pgB_le {b u m : Nat} {P : Nat → Nat → Int32} (h : pgB b u P) (hm : m ≤ u) : pgB b m P := fun n hn => h n (Nat.lt_of_lt_of_le hn hm)
set_option maxHeartbeats 1000000 in
set_option maxRecDepth 20000 in
theorem cUndo (O : Nat → Int32) (Y : Nat → Nat → Int64) (g : Nat → zC) {u : Nat} {P : Nat → Nat → Int32} (hu : u ≤ 120) (hb : O 13 = 0 ∨ O 13 = 1) : zK 1 zX6_undo [.ref 0] (wX (upd O 1 (nI u)) P Y g) (fun r w' => ∃ (u' : Nat) (R : Int32), r = some (.int R) ∧ w' = wX (upd O 1 (nI u')) P Y g ∧ u' ≤ u) := by
  refine zK_of qX6_undo (by decide +kernel) rfl ?_
  iterate 4 (refine zv_step (bX6_undo 1) rfl rfl trivial ?_)
  refine zv_ifb (fun h1 => ?_) (fun h1 => ?_)
  · have h1 : ¬ nI u = 0 := h1
    have hu1 : 1 ≤ u := by
      rcases Nat.eq_zero_or_pos u with h | h
      · subst h; exact absurd rfl h1
      · exact h
    iterate 2 (refine zv_step (bX6_undo 1) rfl rfl trivial ?_)
    refine zv_V0 (bX6_undo 1) rfl rfl rfl rfl rfl rfl rfl ⟨rfl, rfl, rfl⟩ ⟨by decide, by decide⟩ ⟨Nat.zero_le _, Nat.zero_le _⟩ (wBegun (upd O 1 (nI u)) P Y g hb) ?_
    rintro _ _ ⟨rfl, rfl⟩
    iterate 1 (refine zv_step (bX6_undo 1) rfl rfl trivial ?_)
    refine zv_ifb (fun h2 => ?_) (fun h2 => ?_)
    · iterate 10 (refine zv_step (bX6_undo 1) rfl rfl trivial ?_)
      exact zv_iret (bX6_undo 1) rfl (Or.inl rfl) (Nat.zero_le _) (Nat.zero_le _) ⟨u - 1, _, rfl, by show wX (upd (upd O 1 (nI u)) 1 (nI u - Int32.ofInt 1)) P Y g = _; rw [upd2, sub_1 (by omega)], by omega⟩
    · iterate 2 (refine zv_step (bX6_undo 1) rfl rfl trivial ?_)
      refine zv_V0 (bX6_undo 1) rfl rfl rfl rfl rfl rfl rfl ⟨rfl, rfl, rfl⟩ ⟨by decide, by decide⟩ ⟨Nat.zero_le _, Nat.zero_le _⟩ (wTop (upd O 1 (nI u)) P Y g) ?_
      rintro _ _ ⟨rfl, rfl⟩
      iterate 6 (refine zv_step (bX6_undo 1) rfl rfl trivial ?_)
      refine zv_ifb (fun h3 => ?_) (fun h3 => ?_)
      · iterate 10 (refine zv_step (bX6_undo 1) rfl rfl trivial ?_)
        exact zv_iret (bX6_undo 1) rfl (Or.inl rfl) (Nat.zero_le _) (Nat.zero_le _) ⟨u - 1, _, rfl, by show wX (upd (upd O 1 (nI u)) 1 (nI u - Int32.ofInt 1)) P Y g = _; rw [upd2, sub_1 (by omega)], by omega⟩
      · iterate 1 (refine zv_step (bX6_undo 1) rfl rfl trivial ?_)
        exact zv_iret (bX6_undo 1) rfl (Or.inl rfl) (Nat.zero_le _) (Nat.zero_le _) ⟨u, _, rfl, rfl, Nat.le_refl _⟩
  · iterate 1 (refine zv_step (bX6_undo 1) rfl rfl trivial ?_)
    exact zv_iret (bX6_undo 1) rfl (Or.inl rfl) (Nat.zero_le _) (Nat.zero_le _) ⟨u, _, rfl, rfl, Nat.le_refl _⟩
set_option maxHeartbeats 1000000 in
set_option maxRecDepth 20000 in
theorem cWalk (O : Nat → Int32) (P : Nat → Nat → Int32) (Y : Nat → Nat → Int64) (g : Nat → zC) (x : Int32) : zK 1 zX6_walk [.ref 0, .int x] (wX O P Y g) (fun r w' => (∃ R : Int32, r = some (.int R)) ∧ (w' = wX O P Y g ∨ w' = wX (upd (upd O 13 (Int32.ofInt 1)) 14 (Int32.ofInt 0)) (updA P 56 (upd (P 56) 0 x)) Y g)) := by
  refine zK_of qX6_walk (by decide +kernel) rfl ?_
  iterate 3 (refine zv_step (bX6_walk 1) rfl rfl trivial ?_)
  refine zv_V1 (bX6_walk 1) rfl rfl rfl rfl rfl rfl rfl ⟨rfl, rfl, rfl⟩ ⟨by decide, by decide⟩ ⟨Nat.zero_le _, Nat.zero_le _⟩ (pHas1 O P Y g _) ?_
  rintro _ _ ⟨rfl, ⟨hh, rfl⟩ | ⟨hh, rfl⟩⟩
  · iterate 1 (refine zv_step (bX6_walk 1) rfl rfl trivial ?_)
    refine zv_ift (by decide) ?_
    iterate 3 (refine zv_step (bX6_walk 1) rfl rfl trivial ?_)
    refine zv_V1 (bX6_walk 1) rfl rfl rfl rfl rfl rfl rfl ⟨rfl, rfl, rfl⟩ ⟨by decide, by decide⟩ ⟨Nat.zero_le _, Nat.zero_le _⟩ (wBegin O P Y g _) ?_
    rintro _ _ ⟨rfl, rfl⟩
    iterate 1 (refine zv_step (bX6_walk 1) rfl rfl trivial ?_)
    exact zv_iret (bX6_walk 1) rfl (Or.inl rfl) (Nat.zero_le _) (Nat.zero_le _) ⟨⟨_, rfl⟩, Or.inr rfl⟩
  · iterate 1 (refine zv_step (bX6_walk 1) rfl rfl trivial ?_)
    refine zv_iff (by decide) ?_
    iterate 1 (refine zv_step (bX6_walk 1) rfl rfl trivial ?_)
    exact zv_iret (bX6_walk 1) rfl (Or.inl rfl) (Nat.zero_le _) (Nat.zero_le _) ⟨⟨_, rfl⟩, Or.inl rfl⟩
