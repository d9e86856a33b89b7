set_option maxHeartbeats 1000000 in
set_option maxRecDepth 20000 in
theorem sStyle29 (O : Nat → Int32) (P : Nat → Nat → Int32) (Y : Nat → Nat → Int64) (g : Nat → zC) {u : Nat} (hu : u ≤ 120) (h1 : O 1 = nI u) (hp : pgI u (P 2) (P 4) (P 5) (P 6)) {j : Nat} (hj : j < u) {f : Nat} (hf : f < 2 ^ 20) {kk z : Int32} (hz : z = nI f - Int32.ofInt 1) : zK (2 * f + 3) zX4_sayInStyle [.ref 29, .ref 1, .int (nI j), .int kk, .int z] (wX O P Y g) (fun r w' => r = none ∧ w' = (wX (upd (upd (upd O 7 (kk)) 8 (Int32.ofInt 0)) 6 (nI ((tlW (O 1) kk (Int32.ofInt 0) P f (nI j) (hbW kk (P 2 j))).length))) (updA P 30 (ap8 (P 30) 0 (tlW (O 1) kk (Int32.ofInt 0) P f (nI j) (hbW kk (P 2 j))))) Y g)) := by
  have hv : vp_in (nI j) 120 := vp_in_nI (by omega) (by decide)
  have hu1 : (O 1).toInt ≤ 120 := by rw [h1, nI_toInt (by omega)]; omega
  have hK : ∀ i : Nat, (i : Int) < (O 1).toInt → ∃ k : Nat, k < 10 ∧ P 2 i = nI k := fun i hi => (hp i (by rw [h1, nI_toInt (by omega)] at hi; omega)).1
  have hl : (tlW (O 1) (kk) (Int32.ofInt 0) P f (nI j) (hbW kk (P 2 j))).length ≤ 240 := by rw [h1]; have a1 := tlW_len hu (kk := kk) (sp := Int32.ofInt 0) hp f (nI j) (hbW kk (P 2 j)); have a2 := szq_le hp hj hu; omega
  refine zK_of qX4_sayInStyle (by decide +kernel) rfl ?_
  iterate 16 (refine zv_step (bX4_sayInStyle (2 * f + 3)) rfl rfl trivial ?_)
  refine zv_iale (bX4_sayInStyle (2 * f + 3)) rfl rfl hv (v := P 2 j) (show P 2 (nI j).toNatClampNeg = P 2 j by rw [nI_clamp (by omega)]) ?_
  refine zv_S2 (bX4_sayInStyle (2 * f + 3)) rfl rfl rfl rfl ⟨rfl, rfl, rfl⟩ ⟨by show 0 + 1 ≤ 2 * f + 3; omega, by show 8 + (2 + 11) + 64 * 0 ≤ 64 * (2 * f + 3); omega⟩ ⟨Nat.zero_le _, Nat.zero_le _⟩ (pHasBitW _ _ _) ?_
  rintro _ _ ⟨rfl, rfl⟩
  iterate 1 (refine zv_step (bX4_sayInStyle (2 * f + 3)) rfl rfl trivial ?_)
  show zV _ _ _ _ _ 30 _ [.int z, .int (hbW kk (P 2 j)), .int (nI j), .ref 1, .ref 29] (wX (upd (upd (upd O 7 (kk)) 8 (Int32.ofInt 0)) 6 (nI (0))) (updA P 30 (P 30)) Y g) _
  refine zv_V4 (bX4_sayInStyle (2 * f + 3)) rfl rfl rfl rfl rfl rfl rfl ⟨rfl, rfl, rfl⟩ ⟨by show 2 * f + 2 + 1 ≤ 2 * f + 3; omega, by show 8 + (5 + 11) + 64 * (2 * f + 2) ≤ 64 * (2 * f + 3); omega⟩ ⟨Nat.zero_le _, Nat.zero_le _⟩ (sTell29 (upd (upd O 7 (kk)) 8 (Int32.ofInt 0)) P Y g hu1 hK f hf _ _ _ 0 (P 30) (hbW_01 _ _) hz (show 0 + (tlW (O 1) kk (Int32.ofInt 0) P f (nI j) (hbW kk (P 2 j))).length < 2 ^ 30 by omega)) ?_
  rintro _ _ ⟨rfl, rfl⟩
  exact zv_ret (bX4_sayInStyle (2 * f + 3)) rfl rfl (Nat.zero_le _) (Nat.zero_le _) ⟨rfl, by rw [Nat.zero_add]; rfl⟩
set_option maxHeartbeats 1000000 in
set_option maxRecDepth 20000 in
theorem sSparing29 (O : Nat → Int32) (P : Nat → Nat → Int32) (Y : Nat → Nat → Int64) (g : Nat → zC) {u : Nat} (hu : u ≤ 120) (h1 : O 1 = nI u) (hp : pgI u (P 2) (P 4) (P 5) (P 6)) {j : Nat} (hj : j < u) : zK 85 zX4_saySparingly [.ref 29, .ref 1, .int (nI j)] (wX O P Y g) (fun r w' => r = none ∧ w' = (wX (upd (upd O 8 (Int32.ofInt 1)) 6 (nI ((tlW (O 1) (O 7) (Int32.ofInt 1) P 41 (nI j) (Int32.ofInt 0)).length))) (updA P 30 (ap8 (P 30) 0 (tlW (O 1) (O 7) (Int32.ofInt 1) P 41 (nI j) (Int32.ofInt 0)))) Y g)) := by
  have hv : vp_in (nI j) 120 := vp_in_nI (by omega) (by decide)
  have hu1 : (O 1).toInt ≤ 120 := by rw [h1, nI_toInt (by omega)]; omega
  have hK : ∀ i : Nat, (i : Int) < (O 1).toInt → ∃ k : Nat, k < 10 ∧ P 2 i = nI k := fun i hi => (hp i (by rw [h1, nI_toInt (by omega)] at hi; omega)).1
  have hl : (tlW (O 1) (O 7) (Int32.ofInt 1) P 41 (nI j) (Int32.ofInt 0)).length ≤ 240 := by rw [h1]; have a1 := tlW_len hu (kk := O 7) (sp := Int32.ofInt 1) hp 41 (nI j) (Int32.ofInt 0); have a2 := szq_le hp hj hu; omega
  refine zK_of qX4_saySparingly (by decide +kernel) rfl ?_
  iterate 11 (refine zv_step (bX4_saySparingly 85) rfl rfl trivial ?_)
  show zV _ _ _ _ _ 16 _ [.int (c8 40), .int (Int32.ofInt 0), .int (nI j), .ref 1, .ref 29] (wX (upd (upd O 8 (Int32.ofInt 1)) 6 (nI (0))) (updA P 30 (P 30)) Y g) _
  refine zv_V4 (bX4_saySparingly 85) rfl rfl rfl rfl rfl rfl rfl ⟨rfl, rfl, rfl⟩ ⟨Nat.le_of_ble_eq_true rfl, Nat.le_of_ble_eq_true rfl⟩ ⟨Nat.zero_le _, Nat.zero_le _⟩ (sTell29 (upd O 8 (Int32.ofInt 1)) P Y g hu1 hK 41 (by decide) _ _ _ 0 (P 30) (Or.inl rfl) (by decide) (show 0 + (tlW (O 1) (O 7) (Int32.ofInt 1) P 41 (nI j) (Int32.ofInt 0)).length < 2 ^ 30 by omega)) ?_
  rintro _ _ ⟨rfl, rfl⟩
  exact zv_ret (bX4_saySparingly 85) rfl rfl (Nat.zero_le _) (Nat.zero_le _) ⟨rfl, by rw [Nat.zero_add]; rfl⟩
