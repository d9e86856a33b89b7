set_option maxHeartbeats 1000000 in
set_option maxRecDepth 20000 in
theorem hBPL14 (O : Nat → Int32) (Y : Nat → Nat → Int64) (g : Nat → zC) {u : Nat} {P : Nat → Nat → Int32} (hu : u ≤ 120) (hp : pgB 14 u P) {a b : Nat} (hab : a < b) (hb : b ≤ 20) {f : Nat} (ih : ∀ (a b u : Nat) (P : Nat → Nat → Int32) (x y : Int32) (k : Int64), x = nI a → y = nI b → a ≤ 30 → b ≤ 20 → b - a ≤ f → u ≤ 120 → pgB 14 u P → zK (3 * f + 4) zX0_buildSpan [.ref 31, .ref 14, .int x, .int y, .long k] (wX (upd O 2 (nI u)) P Y g) (fun r w' => ∃ (u' : Nat) (P' : Nat → Nat → Int32) (R : Int32), r = some (.int R) ∧ w' = wX (upd O 2 (nI u')) P' Y g ∧ pgX 14 u P u' P' ∧ okp u' R ∧ szq (P' (14 + 5)) R ≤ b - a)) (hf : b - a ≤ f + 1) {kn : Nat} {k : Int32} (hk : kn < 10) (ek : k = nI kn) (kk : Int64) {n0 : Nat} : ∀ (c m : Nat), b - m ≤ c → a < m → m ≤ b → ∀ {x9 : Int32} {s : Int64}, x9 = nI m → zV (zMo (3 * f + 5) zX0_buildPair) false n0 0 0 9 [(9, .int (x9)), (7, .long (s)), (0, .ref 31), (1, .ref 14), (2, .int k), (3, .int (nI a)), (4, .int (nI b)), (5, .long kk)] [] (wX (upd O 2 (nI u)) P Y g) (fun r w' => ∃ (u' : Nat) (P' : Nat → Nat → Int32) (R : Int32), r = some (.int R) ∧ w' = wX (upd O 2 (nI u')) P' Y g ∧ pgX 14 u P u' P' ∧ okp u' R ∧ szq (P' (14 + 5)) R ≤ b - a) := by
  intro c
  induction c with
  | zero =>
    intro m hc hm hmb x9 s e6
    subst e6
    iterate 5 (refine zv_step (bX0_buildPair (3 * f + 5)) rfl rfl trivial ?_)
    refine zv_ift (show nI b - Int32.ofInt 1 ≤ nI m by rw [sub_1 (by omega)]; exact nI_le (by omega) (by omega)) ?_
    iterate 1 (refine zv_step (bX0_buildPair (3 * f + 5)) rfl rfl trivial ?_)
    exact zv_iret (bX0_buildPair (3 * f + 5)) rfl (Or.inl rfl) (Nat.zero_le _) (Nat.zero_le _) ⟨u, P, _, rfl, rfl, pgX_refl hu hp, Or.inl rfl, by rw [szq_m1]; omega⟩
  | succ c ih2 =>
    intro m hc hm hmb x9 s e6
    subst e6
    iterate 5 (refine zv_step (bX0_buildPair (3 * f + 5)) rfl rfl trivial ?_)
    refine zv_ifb (fun hq => ?_) (fun hq => ?_)
    · iterate 1 (refine zv_step (bX0_buildPair (3 * f + 5)) rfl rfl trivial ?_)
      exact zv_iret (bX0_buildPair (3 * f + 5)) rfl (Or.inl rfl) (Nat.zero_le _) (Nat.zero_le _) ⟨u, P, _, rfl, rfl, pgX_refl hu hp, Or.inl rfl, by rw [szq_m1]; omega⟩
    · have hq : ¬ (nI b - Int32.ofInt 1 ≤ nI m) := hq
      rw [sub_1 (by omega), nI_leI (by omega) (by omega)] at hq
      iterate 3 (refine zv_step (bX0_buildPair (3 * f + 5)) rfl rfl trivial ?_)
      refine zv_iale (bX0_buildPair (3 * f + 5)) rfl rfl (show vp_in (nI m) 20 by exact vp_in_nI (by omega) (by decide)) (show P 32 (nI m).toNatClampNeg = P 32 (m) by rw [nI_clamp (by omega)]) ?_
      iterate 4 (refine zv_step (bX0_buildPair (3 * f + 5)) rfl rfl trivial ?_)
      refine zv_ifb (fun h3 => ?_) (fun h3 => ?_)
      · iterate 5 (refine zv_step (bX0_buildPair (3 * f + 5)) rfl rfl trivial ?_)
        refine zv_aald (bX0_buildPair (3 * f + 5)) rfl (Or.inr rfl) rfl (show vp_in (nI m + Int32.ofInt 1) 21 by rw [show nI m + Int32.ofInt 1 = nI (m + 1) from nI_1 m]; exact vp_in_nI (by omega) (by decide)) (show ([some 34, some 35, some 36, some 37, some 38, some 39, some 40, some 41, some 42, some 43, some 44, some 45, some 46, some 47, some 48, some 49, some 50, some 51, some 52, some 53, some 54] : List (Option Nat)).getD (nI m + Int32.ofInt 1).toNatClampNeg none = some (34 + (m + 1)) by rw [show nI m + Int32.ofInt 1 = nI (m + 1) from nI_1 m, nI_clamp (by omega)]; exact dLs (by omega)) ?_
        iterate 1 (refine zv_step (bX0_buildPair (3 * f + 5)) rfl rfl trivial ?_)
        refine zv_lald (bX0_buildPair (3 * f + 5)) rfl (wY (upd O 2 (nI u)) P Y g (by omega)) (show vp_in (nI b) 21 by exact vp_in_nI (by omega) (by decide)) ?_
        iterate 4 (refine zv_step (bX0_buildPair (3 * f + 5)) rfl rfl trivial ?_)
        refine zv_aald (bX0_buildPair (3 * f + 5)) rfl (Or.inr rfl) rfl (show vp_in (nI a) 21 by exact vp_in_nI (by omega) (by decide)) (show ([some 34, some 35, some 36, some 37, some 38, some 39, some 40, some 41, some 42, some 43, some 44, some 45, some 46, some 47, some 48, some 49, some 50, some 51, some 52, some 53, some 54] : List (Option Nat)).getD (nI a).toNatClampNeg none = some (34 + (a)) by rw [nI_clamp (by omega)]; exact dLs (by omega)) ?_
        iterate 1 (refine zv_step (bX0_buildPair (3 * f + 5)) rfl rfl trivial ?_)
        refine zv_lald (bX0_buildPair (3 * f + 5)) rfl (wY (upd O 2 (nI u)) P Y g (by omega)) (show vp_in (nI m) 21 by exact vp_in_nI (by omega) (by decide)) ?_
        iterate 7 (refine zv_step (bX0_buildPair (3 * f + 5)) rfl rfl trivial ?_)
        refine zv_ifb (fun h4 => ?_) (fun h4 => ?_)
        · iterate 6 (refine zv_step (bX0_buildPair (3 * f + 5)) rfl rfl trivial ?_)
          refine zv_locals (l := [(9, .int (nI m + Int32.ofInt 1)), (7, .long (s - Y (34 + a) (nI m).toNatClampNeg * Y (34 + (m + 1)) (nI b).toNatClampNeg)), (12, .long (Y (34 + a) (nI m).toNatClampNeg * Y (34 + (m + 1)) (nI b).toNatClampNeg)), (10, .long (Y (34 + (m + 1)) (nI b).toNatClampNeg)), (0, .ref 31), (1, .ref 14), (2, .int k), (3, .int (nI a)), (4, .int (nI b)), (5, .long kk)]) (l' := [(9, .int (nI m + Int32.ofInt 1)), (7, .long (s - Y (34 + a) (nI m).toNatClampNeg * Y (34 + (m + 1)) (nI b).toNatClampNeg)), (0, .ref 31), (1, .ref 14), (2, .int k), (3, .int (nI a)), (4, .int (nI b)), (5, .long kk)]) ?_ (ih2 (m + 1) (by omega) (by omega) (by omega) (nI_1 m))
          simp
        · iterate 4 (refine zv_step (bX0_buildPair (3 * f + 5)) rfl rfl trivial ?_)
          refine zv_ifb (fun hz => ?_) (fun hz => ?_)
          · iterate 6 (refine zv_step (bX0_buildPair (3 * f + 5)) rfl rfl trivial ?_)
            refine zv_locals (l := [(9, .int (nI m + Int32.ofInt 1)), (7, .long (s - Y (34 + a) (nI m).toNatClampNeg * Y (34 + (m + 1)) (nI b).toNatClampNeg)), (12, .long (Y (34 + a) (nI m).toNatClampNeg * Y (34 + (m + 1)) (nI b).toNatClampNeg)), (10, .long (Y (34 + (m + 1)) (nI b).toNatClampNeg)), (0, .ref 31), (1, .ref 14), (2, .int k), (3, .int (nI a)), (4, .int (nI b)), (5, .long kk)]) (l' := [(9, .int (nI m + Int32.ofInt 1)), (7, .long (s - Y (34 + a) (nI m).toNatClampNeg * Y (34 + (m + 1)) (nI b).toNatClampNeg)), (0, .ref 31), (1, .ref 14), (2, .int k), (3, .int (nI a)), (4, .int (nI b)), (5, .long kk)]) ?_ (ih2 (m + 1) (by omega) (by omega) (by omega) (nI_1 m))
            simp
          · iterate 6 (refine zv_step (bX0_buildPair (3 * f + 5)) rfl rfl trivial ?_)
            refine zv_step (bX0_buildPair (3 * f + 5)) rfl rfl (fun h => hz (by have h : Y (34 + (m + 1)) (nI b).toNatClampNeg = 0 := h; show lg_cmp (Y (34 + (m + 1)) (nI b).toNatClampNeg) (Int64.ofInt 0) ≤ 0; rw [h]; decide)) ?_
            refine zv_V4 (bX0_buildPair (3 * f + 5)) rfl rfl rfl rfl rfl rfl rfl ⟨rfl, rfl, rfl⟩ ⟨by show 3 * f + 4 + 1 ≤ 3 * f + 5; omega, by show 8 + (14 + 11) + 64 * (3 * f + 4) ≤ 64 * (3 * f + 5); omega⟩ ⟨Nat.zero_le _, Nat.zero_le _⟩ (ih (a) (m) u P _ _ _ rfl rfl (by omega) (by omega) (by omega) hu hp) ?_
            rintro _ _ ⟨u1, P1, R1, rfl, rfl, hX1, hR1, hS1⟩
            iterate 9 (refine zv_step (bX0_buildPair (3 * f + 5)) rfl rfl trivial ?_)
            refine zv_step (bX0_buildPair (3 * f + 5)) rfl rfl (fun h => hz (by have h : Y (34 + (m + 1)) (nI b).toNatClampNeg = 0 := h; show lg_cmp (Y (34 + (m + 1)) (nI b).toNatClampNeg) (Int64.ofInt 0) ≤ 0; rw [h]; decide)) ?_
            refine zv_V4 (bX0_buildPair (3 * f + 5)) rfl rfl rfl rfl rfl rfl rfl ⟨rfl, rfl, rfl⟩ ⟨by show 3 * f + 4 + 1 ≤ 3 * f + 5; omega, by show 8 + (14 + 11) + 64 * (3 * f + 4) ≤ 64 * (3 * f + 5); omega⟩ ⟨Nat.zero_le _, Nat.zero_le _⟩ (ih (m + 1) (b) u1 P1 _ _ _ (nI_1 m) rfl (by omega) (by omega) (by omega) hX1.2.1 hX1.2.2.1) ?_
            rintro _ _ ⟨u2, P2, R2, rfl, rfl, hX2, hR2, hS2⟩
            have h02 := pgX_trans hX1 hX2
            have hsum : 1 + szq (P2 (14 + 5)) R1 + szq (P2 (14 + 5)) R2 ≤ b - a := by
              rw [szq_eq hX1.2.1 hR1 hX2.2.2.2.1]
              omega
            have hu2 := hX2.2.1
            iterate 6 (refine zv_step (bX0_buildPair (3 * f + 5)) rfl rfl trivial ?_)
            rcases Nat.lt_or_ge u2 120 with hlt | hge
            · refine zv_V4 (bX0_buildPair (3 * f + 5)) rfl rfl rfl rfl rfl rfl rfl ⟨rfl, rfl, rfl⟩ ⟨by show 2 + 1 ≤ 3 * f + 5; omega, by show 8 + (6 + 11) + 64 * (2) ≤ 64 * (3 * f + 5); omega⟩ ⟨Nat.zero_le _, Nat.zero_le _⟩ (pPut14 (upd O 2 (nI u2)) P2 Y g (show (nI u2).toInt ≤ 120 by rw [nI_toInt (by omega)]; omega) hlt rfl _ _ _ _) ?_
              rintro r9 w9 hpo
              obtain ⟨P9, rfl, rfl, hX9, hZ9⟩ := putYes14 hlt hX2.2.2.1 hk ek (okp_le hR1 hX2.1) hR2 (by omega) hpo
              exact zv_iret (bX0_buildPair (3 * f + 5)) rfl (Or.inl rfl) (Nat.zero_le _) (Nat.zero_le _) ⟨_, P9, _, rfl, rfl, pgX_trans h02 hX9, Or.inr ⟨_, Nat.lt_succ_self _, rfl⟩, by rw [hZ9]; exact hsum⟩
            · refine zv_V4 (bX0_buildPair (3 * f + 5)) rfl rfl rfl rfl rfl rfl rfl ⟨rfl, rfl, rfl⟩ ⟨by show 2 + 1 ≤ 3 * f + 5; omega, by show 8 + (6 + 11) + 64 * (2) ≤ 64 * (3 * f + 5); omega⟩ ⟨Nat.zero_le _, Nat.zero_le _⟩ (pPutNo14 (upd O 2 (nI u2)) P2 Y g (show 120 ≤ (nI u2).toInt by rw [nI_toInt (by omega)]; omega) _ _ _ _) ?_
              rintro _ _ ⟨rfl, rfl⟩
              exact zv_iret (bX0_buildPair (3 * f + 5)) rfl (Or.inl rfl) (Nat.zero_le _) (Nat.zero_le _) ⟨u2, P2, _, rfl, rfl, h02, Or.inl rfl, by rw [szq_m1]; omega⟩
      · iterate 3 (refine zv_step (bX0_buildPair (3 * f + 5)) rfl rfl trivial ?_)
        exact (ih2 (m + 1) (by omega) (by omega) (by omega) (nI_1 m))
set_option maxHeartbeats 1000000 in
set_option maxRecDepth 20000 in
theorem hBP14 (O : Nat → Int32) (Y : Nat → Nat → Int64) (g : Nat → zC) {u : Nat} {P : Nat → Nat → Int32} (hu : u ≤ 120) (hp : pgB 14 u P) {a b : Nat} (hab : a < b) (hb : b ≤ 20) {f : Nat} (ih : ∀ (a b u : Nat) (P : Nat → Nat → Int32) (x y : Int32) (k : Int64), x = nI a → y = nI b → a ≤ 30 → b ≤ 20 → b - a ≤ f → u ≤ 120 → pgB 14 u P → zK (3 * f + 4) zX0_buildSpan [.ref 31, .ref 14, .int x, .int y, .long k] (wX (upd O 2 (nI u)) P Y g) (fun r w' => ∃ (u' : Nat) (P' : Nat → Nat → Int32) (R : Int32), r = some (.int R) ∧ w' = wX (upd O 2 (nI u')) P' Y g ∧ pgX 14 u P u' P' ∧ okp u' R ∧ szq (P' (14 + 5)) R ≤ b - a)) (hf : b - a ≤ f + 1) {kn : Nat} {k : Int32} (hk : kn < 10) (ek : k = nI kn) (kk : Int64) : zK (3 * f + 5) zX0_buildPair [.ref 31, .ref 14, .int k, .int (nI a), .int (nI b), .long kk] (wX (upd O 2 (nI u)) P Y g) (fun r w' => ∃ (u' : Nat) (P' : Nat → Nat → Int32) (R : Int32), r = some (.int R) ∧ w' = wX (upd O 2 (nI u')) P' Y g ∧ pgX 14 u P u' P' ∧ okp u' R ∧ szq (P' (14 + 5)) R ≤ b - a) := by
  refine zK_of qX0_buildPair (by decide +kernel) rfl ?_
  iterate 6 (refine zv_step (bX0_buildPair (3 * f + 5)) rfl rfl trivial ?_)
  exact hBPL14 O Y g hu hp hab hb ih hf hk ek kk (b - (a + 1)) (a + 1) (by omega) (by omega) (by omega) (nI_1 a)
set_option maxHeartbeats 1000000 in
set_option maxRecDepth 20000 in
theorem hBB14 (O : Nat → Int32) (Y : Nat → Nat → Int64) (g : Nat → zC) {u : Nat} {P : Nat → Nat → Int32} (hu : u ≤ 120) (hp : pgB 14 u P) {a b : Nat} (hab : a < b) (hb : b ≤ 20) {f : Nat} (ih : ∀ (a b u : Nat) (P : Nat → Nat → Int32) (x y : Int32) (k : Int64), x = nI a → y = nI b → a ≤ 30 → b ≤ 20 → b - a ≤ f → u ≤ 120 → pgB 14 u P → zK (3 * f + 4) zX0_buildSpan [.ref 31, .ref 14, .int x, .int y, .long k] (wX (upd O 2 (nI u)) P Y g) (fun r w' => ∃ (u' : Nat) (P' : Nat → Nat → Int32) (R : Int32), r = some (.int R) ∧ w' = wX (upd O 2 (nI u')) P' Y g ∧ pgX 14 u P u' P' ∧ okp u' R ∧ szq (P' (14 + 5)) R ≤ b - a)) (hf : b - a ≤ f + 1) {kn : Nat} {k : Int32} (hk : kn < 10) (ek : k = nI kn) (kk : Int64) {x y : Int32} (ex : x = nI a) (ey : y = nI b) : zK (3 * f + 6) zX0_buildBare [.ref 31, .ref 14, .int k, .int x, .int y, .long kk] (wX (upd O 2 (nI u)) P Y g) (fun r w' => ∃ (u' : Nat) (P' : Nat → Nat → Int32) (R : Int32), r = some (.int R) ∧ w' = wX (upd O 2 (nI u')) P' Y g ∧ pgX 14 u P u' P' ∧ okp u' R ∧ szq (P' (14 + 5)) R ≤ b - a) := by
  subst ex ey
  refine zK_of qX0_buildBare (by decide +kernel) rfl ?_
  iterate 1 (refine zv_step (bX0_buildBare (3 * f + 6)) rfl rfl trivial ?_)
  refine zv_S1 (bX0_buildBare (3 * f + 6)) rfl rfl rfl rfl ⟨rfl, rfl, rfl⟩ ⟨by show 0 + 1 ≤ 3 * f + 6; omega, by show 8 + (1 + 11) + 64 * (0) ≤ 64 * (3 * f + 6); omega⟩ ⟨Nat.zero_le _, Nat.zero_le _⟩ (hX1_isPair _ _) ?_
  rintro _ _ ⟨rfl, ⟨hpr, rfl⟩ | ⟨hpr, rfl⟩⟩
  · iterate 1 (refine zv_step (bX0_buildBare (3 * f + 6)) rfl rfl trivial ?_)
    refine zv_iff (by decide) ?_
    iterate 6 (refine zv_step (bX0_buildBare (3 * f + 6)) rfl rfl trivial ?_)
    refine zv_V5 (bX0_buildBare (3 * f + 6)) rfl rfl rfl rfl rfl rfl rfl ⟨rfl, rfl, rfl⟩ ⟨by show 3 * f + 5 + 1 ≤ 3 * f + 6; omega, by show 8 + (16 + 11) + 64 * (3 * f + 5) ≤ 64 * (3 * f + 6); omega⟩ ⟨Nat.zero_le _, Nat.zero_le _⟩ (hBP14 O Y g hu hp hab hb ih hf hk ek _) ?_
    rintro _ _ ⟨u1, P1, R1, rfl, rfl, q1, q2, q3⟩
    exact zv_iret (bX0_buildBare (3 * f + 6)) rfl (Or.inl rfl) (Nat.zero_le _) (Nat.zero_le _) ⟨u1, P1, R1, rfl, rfl, q1, q2, q3⟩
  · iterate 1 (refine zv_step (bX0_buildBare (3 * f + 6)) rfl rfl trivial ?_)
    refine zv_ift (by decide) ?_
    iterate 2 (refine zv_step (bX0_buildBare (3 * f + 6)) rfl rfl trivial ?_)
    refine zv_ifb (fun h1 => ?_) (fun h1 => ?_)
    · iterate 3 (refine zv_step (bX0_buildBare (3 * f + 6)) rfl rfl trivial ?_)
      refine zv_ifb (fun h2 => ?_) (fun h2 => ?_)
      · obtain ⟨f1, t1, ef, et, hf1, hf2, ht1⟩ := pf_any (a := a) (b := b) (by omega) k
        iterate 4 (refine zv_step (bX0_buildBare (3 * f + 6)) rfl rfl trivial ?_)
        refine zv_S2 (bX0_buildBare (3 * f + 6)) rfl rfl rfl rfl ⟨rfl, rfl, rfl⟩ ⟨by show 0 + 1 ≤ 3 * f + 6; omega, by show 8 + (2 + 11) + 64 * (0) ≤ 64 * (3 * f + 6); omega⟩ ⟨Nat.zero_le _, Nat.zero_le _⟩ (hFrom _ _ _) ?_
        rintro _ _ ⟨rfl, rfl⟩
        iterate 2 (refine zv_step (bX0_buildBare (3 * f + 6)) rfl rfl trivial ?_)
        refine zv_S2 (bX0_buildBare (3 * f + 6)) rfl rfl rfl rfl ⟨rfl, rfl, rfl⟩ ⟨by show 0 + 1 ≤ 3 * f + 6; omega, by show 8 + (2 + 11) + 64 * (0) ≤ 64 * (3 * f + 6); omega⟩ ⟨Nat.zero_le _, Nat.zero_le _⟩ (hTo _ _ _) ?_
        rintro _ _ ⟨rfl, rfl⟩
        iterate 1 (refine zv_step (bX0_buildBare (3 * f + 6)) rfl rfl trivial ?_)
        refine zv_V4 (bX0_buildBare (3 * f + 6)) rfl rfl rfl rfl rfl rfl rfl ⟨rfl, rfl, rfl⟩ ⟨by show 3 * f + 4 + 1 ≤ 3 * f + 6; omega, by show 8 + (14 + 11) + 64 * (3 * f + 4) ≤ 64 * (3 * f + 6); omega⟩ ⟨Nat.zero_le _, Nat.zero_le _⟩ (ih f1 t1 u P _ _ _ ef et (by omega) (by omega) (by omega) hu hp) ?_
        rintro _ _ ⟨u1, P1, R1, rfl, rfl, hX1, hR1, hS1⟩
        have hu1 := hX1.2.1
        have hsum : 1 + szq (P1 (14 + 5)) R1 + szq (P1 (14 + 5)) (Int32.ofInt (-1)) ≤ b - a := by
          rw [szq_m1]
          omega
        iterate 6 (refine zv_step (bX0_buildBare (3 * f + 6)) rfl rfl trivial ?_)
        refine zv_ifb (fun h5 => ?_) (fun h5 => ?_)
        · iterate 3 (refine zv_step (bX0_buildBare (3 * f + 6)) rfl rfl trivial ?_)
          rcases Nat.lt_or_ge u1 120 with hlt | hge
          · refine zv_V4 (bX0_buildBare (3 * f + 6)) rfl rfl rfl rfl rfl rfl rfl ⟨rfl, rfl, rfl⟩ ⟨by show 2 + 1 ≤ 3 * f + 6; omega, by show 8 + (6 + 11) + 64 * (2) ≤ 64 * (3 * f + 6); omega⟩ ⟨Nat.zero_le _, Nat.zero_le _⟩ (pPut14 (upd O 2 (nI u1)) P1 Y g (show (nI u1).toInt ≤ 120 by rw [nI_toInt (by omega)]; omega) hlt rfl _ _ _ _) ?_
            rintro r9 w9 hpo
            obtain ⟨P9, rfl, rfl, hX9, hZ9⟩ := putYes14 hlt hX1.2.2.1 hk ek hR1 (Or.inl rfl) (by omega) hpo
            exact zv_iret (bX0_buildBare (3 * f + 6)) rfl (Or.inl rfl) (Nat.zero_le _) (Nat.zero_le _) ⟨_, P9, _, rfl, rfl, pgX_trans hX1 hX9, Or.inr ⟨_, Nat.lt_succ_self _, rfl⟩, by rw [hZ9]; exact hsum⟩
          · refine zv_V4 (bX0_buildBare (3 * f + 6)) rfl rfl rfl rfl rfl rfl rfl ⟨rfl, rfl, rfl⟩ ⟨by show 2 + 1 ≤ 3 * f + 6; omega, by show 8 + (6 + 11) + 64 * (2) ≤ 64 * (3 * f + 6); omega⟩ ⟨Nat.zero_le _, Nat.zero_le _⟩ (pPutNo14 (upd O 2 (nI u1)) P1 Y g (show 120 ≤ (nI u1).toInt by rw [nI_toInt (by omega)]; omega) _ _ _ _) ?_
            rintro _ _ ⟨rfl, rfl⟩
            exact zv_iret (bX0_buildBare (3 * f + 6)) rfl (Or.inl rfl) (Nat.zero_le _) (Nat.zero_le _) ⟨u1, P1, _, rfl, rfl, hX1, Or.inl rfl, by rw [szq_m1]; omega⟩
        · iterate 3 (refine zv_step (bX0_buildBare (3 * f + 6)) rfl rfl trivial ?_)
          refine zv_iale (bX0_buildBare (3 * f + 6)) rfl rfl (show vp_in (nI a) 20 by exact vp_in_nI (by omega) (by decide)) (show P1 32 (nI a).toNatClampNeg = P1 32 (a) by rw [nI_clamp (by omega)]) ?_
          iterate 3 (refine zv_step (bX0_buildBare (3 * f + 6)) rfl rfl trivial ?_)
          rcases Nat.lt_or_ge u1 120 with hlt | hge
          · refine zv_V4 (bX0_buildBare (3 * f + 6)) rfl rfl rfl rfl rfl rfl rfl ⟨rfl, rfl, rfl⟩ ⟨by show 2 + 1 ≤ 3 * f + 6; omega, by show 8 + (6 + 11) + 64 * (2) ≤ 64 * (3 * f + 6); omega⟩ ⟨Nat.zero_le _, Nat.zero_le _⟩ (pPut14 (upd O 2 (nI u1)) P1 Y g (show (nI u1).toInt ≤ 120 by rw [nI_toInt (by omega)]; omega) hlt rfl _ _ _ _) ?_
            rintro r9 w9 hpo
            obtain ⟨P9, rfl, rfl, hX9, hZ9⟩ := putYes14 hlt hX1.2.2.1 hk ek hR1 (Or.inl rfl) (by omega) hpo
            exact zv_iret (bX0_buildBare (3 * f + 6)) rfl (Or.inl rfl) (Nat.zero_le _) (Nat.zero_le _) ⟨_, P9, _, rfl, rfl, pgX_trans hX1 hX9, Or.inr ⟨_, Nat.lt_succ_self _, rfl⟩, by rw [hZ9]; exact hsum⟩
          · refine zv_V4 (bX0_buildBare (3 * f + 6)) rfl rfl rfl rfl rfl rfl rfl ⟨rfl, rfl, rfl⟩ ⟨by show 2 + 1 ≤ 3 * f + 6; omega, by show 8 + (6 + 11) + 64 * (2) ≤ 64 * (3 * f + 6); omega⟩ ⟨Nat.zero_le _, Nat.zero_le _⟩ (pPutNo14 (upd O 2 (nI u1)) P1 Y g (show 120 ≤ (nI u1).toInt by rw [nI_toInt (by omega)]; omega) _ _ _ _) ?_
            rintro _ _ ⟨rfl, rfl⟩
            exact zv_iret (bX0_buildBare (3 * f + 6)) rfl (Or.inl rfl) (Nat.zero_le _) (Nat.zero_le _) ⟨u1, P1, _, rfl, rfl, hX1, Or.inl rfl, by rw [szq_m1]; omega⟩
      · iterate 5 (refine zv_step (bX0_buildBare (3 * f + 6)) rfl rfl trivial ?_)
        refine zv_V2 (bX0_buildBare (3 * f + 6)) rfl rfl rfl rfl rfl rfl rfl ⟨rfl, rfl, rfl⟩ ⟨by show 0 + 1 ≤ 3 * f + 6; omega, by show 8 + (6 + 11) + 64 * (0) ≤ 64 * (3 * f + 6); omega⟩ ⟨Nat.zero_le _, Nat.zero_le _⟩ (hNum (upd O 2 (nI u)) P Y g hab hb) ?_
        rintro _ _ ⟨rfl, rfl⟩
        have hsum : 1 + szq (P (14 + 5)) (Int32.ofInt (-1)) + szq (P (14 + 5)) (Int32.ofInt (-1)) ≤ b - a := by
          rw [szq_m1]
          omega
        iterate 2 (refine zv_step (bX0_buildBare (3 * f + 6)) rfl rfl trivial ?_)
        rcases Nat.lt_or_ge u 120 with hlt | hge
        · refine zv_V4 (bX0_buildBare (3 * f + 6)) rfl rfl rfl rfl rfl rfl rfl ⟨rfl, rfl, rfl⟩ ⟨by show 2 + 1 ≤ 3 * f + 6; omega, by show 8 + (6 + 11) + 64 * (2) ≤ 64 * (3 * f + 6); omega⟩ ⟨Nat.zero_le _, Nat.zero_le _⟩ (pPut14 (upd O 2 (nI u)) P Y g (show (nI u).toInt ≤ 120 by rw [nI_toInt (by omega)]; omega) hlt rfl _ _ _ _) ?_
          rintro r9 w9 hpo
          obtain ⟨P9, rfl, rfl, hX9, hZ9⟩ := putYes14 hlt hp (show 1 < 10 by decide) rfl (Or.inl rfl) (Or.inl rfl) (by omega) hpo
          exact zv_iret (bX0_buildBare (3 * f + 6)) rfl (Or.inl rfl) (Nat.zero_le _) (Nat.zero_le _) ⟨_, P9, _, rfl, rfl, pgX_trans (pgX_refl hu hp) hX9, Or.inr ⟨_, Nat.lt_succ_self _, rfl⟩, by rw [hZ9]; exact hsum⟩
        · refine zv_V4 (bX0_buildBare (3 * f + 6)) rfl rfl rfl rfl rfl rfl rfl ⟨rfl, rfl, rfl⟩ ⟨by show 2 + 1 ≤ 3 * f + 6; omega, by show 8 + (6 + 11) + 64 * (2) ≤ 64 * (3 * f + 6); omega⟩ ⟨Nat.zero_le _, Nat.zero_le _⟩ (pPutNo14 (upd O 2 (nI u)) P Y g (show 120 ≤ (nI u).toInt by rw [nI_toInt (by omega)]; omega) _ _ _ _) ?_
          rintro _ _ ⟨rfl, rfl⟩
          exact zv_iret (bX0_buildBare (3 * f + 6)) rfl (Or.inl rfl) (Nat.zero_le _) (Nat.zero_le _) ⟨u, P, _, rfl, rfl, (pgX_refl hu hp), Or.inl rfl, by rw [szq_m1]; omega⟩
    · iterate 5 (refine zv_step (bX0_buildBare (3 * f + 6)) rfl rfl trivial ?_)
      refine zv_iale (bX0_buildBare (3 * f + 6)) rfl rfl (show vp_in (nI a) 20 by exact vp_in_nI (by omega) (by decide)) (show P 32 (nI a).toNatClampNeg = P 32 (a) by rw [nI_clamp (by omega)]) ?_
      have hsum : 1 + szq (P (14 + 5)) (Int32.ofInt (-1)) + szq (P (14 + 5)) (Int32.ofInt (-1)) ≤ b - a := by
        rw [szq_m1]
        omega
      iterate 2 (refine zv_step (bX0_buildBare (3 * f + 6)) rfl rfl trivial ?_)
      rcases Nat.lt_or_ge u 120 with hlt | hge
      · refine zv_V4 (bX0_buildBare (3 * f + 6)) rfl rfl rfl rfl rfl rfl rfl ⟨rfl, rfl, rfl⟩ ⟨by show 2 + 1 ≤ 3 * f + 6; omega, by show 8 + (6 + 11) + 64 * (2) ≤ 64 * (3 * f + 6); omega⟩ ⟨Nat.zero_le _, Nat.zero_le _⟩ (pPut14 (upd O 2 (nI u)) P Y g (show (nI u).toInt ≤ 120 by rw [nI_toInt (by omega)]; omega) hlt rfl _ _ _ _) ?_
        rintro r9 w9 hpo
        obtain ⟨P9, rfl, rfl, hX9, hZ9⟩ := putYes14 hlt hp (show 0 < 10 by decide) rfl (Or.inl rfl) (Or.inl rfl) (by omega) hpo
        exact zv_iret (bX0_buildBare (3 * f + 6)) rfl (Or.inl rfl) (Nat.zero_le _) (Nat.zero_le _) ⟨_, P9, _, rfl, rfl, pgX_trans (pgX_refl hu hp) hX9, Or.inr ⟨_, Nat.lt_succ_self _, rfl⟩, by rw [hZ9]; exact hsum⟩
      · refine zv_V4 (bX0_buildBare (3 * f + 6)) rfl rfl rfl rfl rfl rfl rfl ⟨rfl, rfl, rfl⟩ ⟨by show 2 + 1 ≤ 3 * f + 6; omega, by show 8 + (6 + 11) + 64 * (2) ≤ 64 * (3 * f + 6); omega⟩ ⟨Nat.zero_le _, Nat.zero_le _⟩ (pPutNo14 (upd O 2 (nI u)) P Y g (show 120 ≤ (nI u).toInt by rw [nI_toInt (by omega)]; omega) _ _ _ _) ?_
        rintro _ _ ⟨rfl, rfl⟩
        exact zv_iret (bX0_buildBare (3 * f + 6)) rfl (Or.inl rfl) (Nat.zero_le _) (Nat.zero_le _) ⟨u, P, _, rfl, rfl, (pgX_refl hu hp), Or.inl rfl, by rw [szq_m1]; omega⟩
set_option maxHeartbeats 1000000 in
set_option maxRecDepth 20000 in
theorem hBSL14 (O : Nat → Int32) (Y : Nat → Nat → Int64) (g : Nat → zC) (hY : wyI Y) {u : Nat} {P : Nat → Nat → Int32} (hu : u ≤ 120) (hp : pgB 14 u P) {a b : Nat} (hab : a < b) (hb : b ≤ 20) {f : Nat} (ih : ∀ (a b u : Nat) (P : Nat → Nat → Int32) (x y : Int32) (k : Int64), x = nI a → y = nI b → a ≤ 30 → b ≤ 20 → b - a ≤ f → u ≤ 120 → pgB 14 u P → zK (3 * f + 4) zX0_buildSpan [.ref 31, .ref 14, .int x, .int y, .long k] (wX (upd O 2 (nI u)) P Y g) (fun r w' => ∃ (u' : Nat) (P' : Nat → Nat → Int32) (R : Int32), r = some (.int R) ∧ w' = wX (upd O 2 (nI u')) P' Y g ∧ pgX 14 u P u' P' ∧ okp u' R ∧ szq (P' (14 + 5)) R ≤ b - a)) (hf : b - a ≤ f + 1) (kk : Int64) {e : Int32} (he : e = 0 ∨ 2 < b - a) {n0 : Nat} : ∀ (c q : Nat), q + c = 10 → ∀ {x9 : Int32} {s : Int64}, x9 = nI q → zV (zMo (3 * (f + 1) + 4) zX0_buildSpan) false n0 0 0 22 [(9, .int (x9)), (8, .int e), (6, .long (s)), (0, .ref 31), (1, .ref 14), (2, .int (nI a)), (3, .int (nI b)), (4, .long kk)] [] (wX (upd O 2 (nI u)) P Y g) (fun r w' => ∃ (u' : Nat) (P' : Nat → Nat → Int32) (R : Int32), r = some (.int R) ∧ w' = wX (upd O 2 (nI u')) P' Y g ∧ pgX 14 u P u' P' ∧ okp u' R ∧ szq (P' (14 + 5)) R ≤ b - a) := by
  intro c
  induction c with
  | zero =>
    intro q hc x9 s e6
    subst e6
    iterate 3 (refine zv_step (bX0_buildSpan (3 * (f + 1) + 4)) rfl rfl trivial ?_)
    refine zv_ift (show c8 9 < nI q by rw [show c8 9 = nI 9 from rfl]; exact nI_lt (by omega) (by omega)) ?_
    iterate 1 (refine zv_step (bX0_buildSpan (3 * (f + 1) + 4)) rfl rfl trivial ?_)
    exact zv_iret (bX0_buildSpan (3 * (f + 1) + 4)) rfl (Or.inl rfl) (Nat.zero_le _) (Nat.zero_le _) ⟨u, P, _, rfl, rfl, pgX_refl hu hp, Or.inl rfl, by rw [szq_m1]; omega⟩
  | succ c ih2 =>
    intro q hc x9 s e6
    subst e6
    iterate 3 (refine zv_step (bX0_buildSpan (3 * (f + 1) + 4)) rfl rfl trivial ?_)
    refine zv_iff (show ¬ c8 9 < nI q by rw [show c8 9 = nI 9 from rfl]; exact nI_nlt (by omega) (by omega)) ?_
    iterate 9 (refine zv_step (bX0_buildSpan (3 * (f + 1) + 4)) rfl rfl trivial ?_)
    refine zv_V3 (bX0_buildSpan (3 * (f + 1) + 4)) rfl rfl rfl rfl rfl rfl rfl ⟨rfl, rfl, rfl⟩ ⟨by show 2 + 1 ≤ 3 * (f + 1) + 4; omega, by show 8 + (8 + 11) + 64 * (2) ≤ 64 * (3 * (f + 1) + 4); omega⟩ ⟨Nat.zero_le _, Nat.zero_le _⟩ (hBare (upd O 2 (nI u)) P Y g hab hb rfl rfl _) ?_
    rintro _ _ ⟨rfl, v1, rfl, hv1⟩
    iterate 5 (refine zv_step (bX0_buildSpan (3 * (f + 1) + 4)) rfl rfl trivial ?_)
    refine zv_ifb (fun h1 => ?_) (fun h1 => ?_)
    · iterate 6 (refine zv_step (bX0_buildSpan (3 * (f + 1) + 4)) rfl rfl trivial ?_)
      refine zv_ifb (fun hz => ?_) (fun hz => ?_)
      · iterate 6 (refine zv_step (bX0_buildSpan (3 * (f + 1) + 4)) rfl rfl trivial ?_)
        refine zv_ift (cmp_sub (hv1 hY) h1) ?_
        iterate 6 (refine zv_step (bX0_buildSpan (3 * (f + 1) + 4)) rfl rfl trivial ?_)
        refine zv_locals (l := [(9, .int (nI q + Int32.ofInt 1)), (6, .long (s - v1 - Int64.ofInt 0)), (12, .long (Int64.ofInt 0)), (10, .long v1), (8, .int e), (0, .ref 31), (1, .ref 14), (2, .int (nI a)), (3, .int (nI b)), (4, .long kk)]) (l' := [(9, .int (nI q + Int32.ofInt 1)), (8, .int e), (6, .long (s - v1 - Int64.ofInt 0)), (0, .ref 31), (1, .ref 14), (2, .int (nI a)), (3, .int (nI b)), (4, .long kk)]) ?_ (ih2 (q + 1) (by omega) (nI_1 q))
        simp
      · have h3 : 2 < b - a := he.resolve_left hz
        iterate 13 (refine zv_step (bX0_buildSpan (3 * (f + 1) + 4)) rfl rfl trivial ?_)
        refine zv_V3 (bX0_buildSpan (3 * (f + 1) + 4)) rfl rfl rfl rfl rfl rfl rfl ⟨rfl, rfl, rfl⟩ ⟨by show 2 + 1 ≤ 3 * (f + 1) + 4; omega, by show 8 + (8 + 11) + 64 * (2) ≤ 64 * (3 * (f + 1) + 4); omega⟩ ⟨Nat.zero_le _, Nat.zero_le _⟩ (hBare (upd O 2 (nI u)) P Y g (a := a + 1) (b := b - 1) (by omega) (by omega) (nI_1 a) (sub_1 (by omega)) _) ?_
        rintro _ _ ⟨rfl, v2, rfl, hv2⟩
        iterate 6 (refine zv_step (bX0_buildSpan (3 * (f + 1) + 4)) rfl rfl trivial ?_)
        refine zv_ifb (fun h4 => ?_) (fun h4 => ?_)
        · iterate 6 (refine zv_step (bX0_buildSpan (3 * (f + 1) + 4)) rfl rfl trivial ?_)
          refine zv_locals (l := [(9, .int (nI q + Int32.ofInt 1)), (6, .long (s - v1 - v2)), (12, .long (v2)), (10, .long v1), (8, .int e), (0, .ref 31), (1, .ref 14), (2, .int (nI a)), (3, .int (nI b)), (4, .long kk)]) (l' := [(9, .int (nI q + Int32.ofInt 1)), (8, .int e), (6, .long (s - v1 - v2)), (0, .ref 31), (1, .ref 14), (2, .int (nI a)), (3, .int (nI b)), (4, .long kk)]) ?_ (ih2 (q + 1) (by omega) (nI_1 q))
          simp
        · iterate 10 (refine zv_step (bX0_buildSpan (3 * (f + 1) + 4)) rfl rfl trivial ?_)
          refine zv_V5 (bX0_buildSpan (3 * (f + 1) + 4)) rfl rfl rfl rfl rfl rfl rfl ⟨rfl, rfl, rfl⟩ ⟨by show 3 * f + 6 + 1 ≤ 3 * (f + 1) + 4; omega, by show 8 + (8 + 11) + 64 * (3 * f + 6) ≤ 64 * (3 * (f + 1) + 4); omega⟩ ⟨Nat.zero_le _, Nat.zero_le _⟩ (hBB14 O Y g hu hp (a := a + 1) (b := b - 1) (by omega) (by omega) ih (by omega) (kn := q) (by omega) rfl _ (nI_1 a) (sub_1 (by omega))) ?_
          rintro _ _ ⟨u1, P1, R1, rfl, rfl, q1, q2, q3⟩
          exact zv_iret (bX0_buildSpan (3 * (f + 1) + 4)) rfl (Or.inl rfl) (Nat.zero_le _) (Nat.zero_le _) ⟨u1, P1, R1, rfl, rfl, q1, q2, by omega⟩
    · iterate 6 (refine zv_step (bX0_buildSpan (3 * (f + 1) + 4)) rfl rfl trivial ?_)
      refine zv_V5 (bX0_buildSpan (3 * (f + 1) + 4)) rfl rfl rfl rfl rfl rfl rfl ⟨rfl, rfl, rfl⟩ ⟨by show 3 * f + 6 + 1 ≤ 3 * (f + 1) + 4; omega, by show 8 + (8 + 11) + 64 * (3 * f + 6) ≤ 64 * (3 * (f + 1) + 4); omega⟩ ⟨Nat.zero_le _, Nat.zero_le _⟩ (hBB14 O Y g hu hp hab hb ih (by omega) (kn := q) (by omega) rfl _ rfl rfl) ?_
      rintro _ _ ⟨u1, P1, R1, rfl, rfl, q1, q2, q3⟩
      exact zv_iret (bX0_buildSpan (3 * (f + 1) + 4)) rfl (Or.inl rfl) (Nat.zero_le _) (Nat.zero_le _) ⟨u1, P1, R1, rfl, rfl, q1, q2, q3⟩
set_option maxHeartbeats 1000000 in
set_option maxRecDepth 20000 in
theorem hBS14 (O : Nat → Int32) (Y : Nat → Nat → Int64) (g : Nat → zC) (hY : wyI Y) : ∀ (f a b u : Nat) (P : Nat → Nat → Int32) (x y : Int32) (k : Int64), x = nI a → y = nI b → a ≤ 30 → b ≤ 20 → b - a ≤ f → u ≤ 120 → pgB 14 u P → zK (3 * f + 4) zX0_buildSpan [.ref 31, .ref 14, .int x, .int y, .long k] (wX (upd O 2 (nI u)) P Y g) (fun r w' => ∃ (u' : Nat) (P' : Nat → Nat → Int32) (R : Int32), r = some (.int R) ∧ w' = wX (upd O 2 (nI u')) P' Y g ∧ pgX 14 u P u' P' ∧ okp u' R ∧ szq (P' (14 + 5)) R ≤ b - a) := by
  intro f
  induction f with
  | zero =>
    intro a b u P x y k ex ey ha hb hf hu hp
    subst ex ey
    refine zK_of qX0_buildSpan (by decide +kernel) rfl ?_
    iterate 3 (refine zv_step (bX0_buildSpan (3 * 0 + 4)) rfl rfl trivial ?_)
    refine zv_iff (nI_nlt (by omega) (by omega)) ?_
    iterate 1 (refine zv_step (bX0_buildSpan (3 * 0 + 4)) rfl rfl trivial ?_)
    exact zv_iret (bX0_buildSpan (3 * 0 + 4)) rfl (Or.inl rfl) (Nat.zero_le _) (Nat.zero_le _) ⟨u, P, _, rfl, rfl, pgX_refl hu hp, Or.inl rfl, by rw [szq_m1]; omega⟩
  | succ f ih =>
    intro a b u P x y k ex ey ha hb hf hu hp
    subst ex ey
    refine zK_of qX0_buildSpan (by decide +kernel) rfl ?_
    iterate 3 (refine zv_step (bX0_buildSpan (3 * (f + 1) + 4)) rfl rfl trivial ?_)
    refine zv_ifb (fun hq => ?_) (fun hq => ?_)
    · have hq : nI a < nI b := hq
      rw [nI_ltI (by omega) (by omega)] at hq
      have hab : a < b := hq
      iterate 5 (refine zv_step (bX0_buildSpan (3 * (f + 1) + 4)) rfl rfl trivial ?_)
      refine zv_V2 (bX0_buildSpan (3 * (f + 1) + 4)) rfl rfl rfl rfl rfl rfl rfl ⟨rfl, rfl, rfl⟩ ⟨by show 0 + 1 ≤ 3 * (f + 1) + 4; omega, by show 8 + (3 + 11) + 64 * (0) ≤ 64 * (3 * (f + 1) + 4); omega⟩ ⟨Nat.zero_le _, Nat.zero_le _⟩ (hBr (upd O 2 (nI u)) P Y g hab hb) ?_
      rintro _ _ ⟨rfl, ⟨hh, rfl⟩ | ⟨hh, rfl⟩⟩
      · iterate 3 (refine zv_step (bX0_buildSpan (3 * (f + 1) + 4)) rfl rfl trivial ?_)
        exact hBSL14 O Y g hY hu hp hab hb ih hf _ (Or.inr hh.1) 10 0 rfl rfl
      · iterate 3 (refine zv_step (bX0_buildSpan (3 * (f + 1) + 4)) rfl rfl trivial ?_)
        exact hBSL14 O Y g hY hu hp hab hb ih hf _ (Or.inl rfl) 10 0 rfl rfl
    · iterate 1 (refine zv_step (bX0_buildSpan (3 * (f + 1) + 4)) rfl rfl trivial ?_)
      exact zv_iret (bX0_buildSpan (3 * (f + 1) + 4)) rfl (Or.inl rfl) (Nat.zero_le _) (Nat.zero_le _) ⟨u, P, _, rfl, rfl, pgX_refl hu hp, Or.inl rfl, by rw [szq_m1]; omega⟩
set_option maxHeartbeats 1000000 in
set_option maxRecDepth 20000 in
theorem hBuild14 (O : Nat → Int32) (Y : Nat → Nat → Int64) (g : Nat → zC) (hY : wyI Y) {u : Nat} {P : Nat → Nat → Int32} (hu : u ≤ 120) (hp : pgB 14 u P) {l : Nat} (hl : l ≤ 20) (hO : O 9 = nI l) (k : Int64) : zK 65 zX0_build [.ref 31, .ref 14, .long k] (wX (upd O 2 (nI u)) P Y g) (fun r w' => ∃ (u' : Nat) (P' : Nat → Nat → Int32) (R : Int32), r = some (.int R) ∧ w' = wX (upd O 2 (nI u')) P' Y g ∧ pgX 14 u P u' P' ∧ okp u' R ∧ szq (P' (14 + 5)) R ≤ l) := by
  refine zK_of qX0_build (by decide +kernel) rfl ?_
  iterate 6 (refine zv_step (bX0_build 65) rfl rfl trivial ?_)
  refine zv_V4 (bX0_build 65) rfl rfl rfl rfl rfl rfl rfl ⟨rfl, rfl, rfl⟩ ⟨by decide, by decide⟩ ⟨Nat.zero_le _, Nat.zero_le _⟩ (hBS14 O Y g hY 20 0 l u P _ _ k rfl hO (by omega) (by omega) (by omega) hu hp) ?_
  rintro _ _ ⟨u1, P1, R1, rfl, rfl, q1, q2, q3⟩
  exact zv_iret (bX0_build 65) rfl (Or.inl rfl) (Nat.zero_le _) (Nat.zero_le _) ⟨u1, P1, R1, rfl, rfl, q1, q2, q3⟩
