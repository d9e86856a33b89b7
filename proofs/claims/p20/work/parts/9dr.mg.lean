section
set_option maxHeartbeats 1000000 in
set_option maxRecDepth 20000 in
theorem cGoT (O : Nat → Int32) (P : Nat → Nat → Int32) (Y : Nat → Nat → Int64) (g : Nat → zC) {u : Nat} (hu0 : u ≤ 120) (hO1 : O 1 = nI u) (hp : pgI u (P 2) (P 4) (P 5) (P 6)) {dd : Nat} (hd : dd < 40) (N D : Nat → Int32) (hb : O 13 = 0 ∨ O 13 = 1) (hr : O 13 = 1 → ∃ t, t < u ∧ rtN t dd N) (x : Int32) : zK 3 zX6_go [.ref 0, .int x] (wX (upd O 14 (nI dd)) (updA (updA P 56 N) 57 D) Y g) (fun r w' => ∃ (d' : Nat) (N' D' : Nat → Int32) (v : Int32), r = some (.int v) ∧ w' = (wX (upd O 14 (nI d')) (updA (updA P 56 N') 57 D') Y g) ∧ d' < 40 ∧ (O 13 = 1 → ∃ t, (t < u ∧ N 0 = nI t) ∧ rtN t d' N')) := by
  have hu : (O 1).toInt ≤ 120 := by rw [hO1, nI_toInt (by omega)]; omega
  refine zK_of qX6_go (by decide +kernel) rfl ?_
  iterate 2 (refine zv_step (bX6_go 3) rfl rfl trivial ?_)
  refine zv_ifb (fun h1 => ?_) (fun h1 => ?_)
  · iterate 1 (refine zv_step (bX6_go 3) rfl rfl trivial ?_)
    exact zv_iret (bX6_go 3) rfl (Or.inl rfl) (Nat.zero_le _) (Nat.zero_le _) ⟨dd, N, D, _, rfl, rfl, hd, fun h => by obtain ⟨t, ht, k⟩ := hr h; exact ⟨t, ⟨ht, k.1⟩, k⟩⟩
  · have h1a := h1
    iterate 3 (refine zv_step (bX6_go 3) rfl rfl trivial ?_)
    refine zv_ifb (fun h6 => ?_) (fun h6 => ?_)
    · iterate 2 (refine zv_step (bX6_go 3) rfl rfl trivial ?_)
      refine zv_V0 (bX6_go 3) rfl rfl rfl rfl rfl rfl rfl ⟨rfl, rfl, rfl⟩ ⟨by decide, by decide⟩ ⟨Nat.zero_le _, Nat.zero_le _⟩ (wBegun (upd O 14 (nI dd)) _ Y g hb) ?_
      rintro _ _ ⟨rfl, rfl⟩
      iterate 1 (refine zv_step (bX6_go 3) rfl rfl trivial ?_)
      refine zv_ifb (fun h18 => ?_) (fun h18 => ?_)
      · obtain ⟨k, hk, rfl⟩ : ∃ k : Nat, k < 4 ∧ x = nI k := by
          have a1 : ¬ x < 0 := h1a
          have a2 : x ≤ Int32.ofInt 3 := h6
          rw [Int32.lt_iff_toInt_lt, Int32.toInt_zero] at a1
          rw [Int32.le_iff_toInt_le, show (Int32.ofInt 3).toInt = 3 from rfl] at a2
          refine ⟨x.toInt.toNat, by omega, ?_⟩
          rw [← Int32.toInt_inj, nI_toInt (by omega)]
          omega
        clear h1a h6 h18
        rcases (show k = 0 ∨ k = 1 ∨ k = 2 ∨ k = 3 by omega) with rfl | rfl | rfl | rfl
        · iterate 1 (refine zv_step (bX6_go 3) rfl rfl trivial ?_)
          refine zv_step (bX6_go 3) rfl rfl (by decide) ?_
          iterate 7 (refine zv_step (bX6_go 3) rfl rfl trivial ?_)
          refine zv_V2 (bX6_go 3) rfl rfl rfl rfl rfl rfl rfl ⟨rfl, rfl, rfl⟩ ⟨by decide, by decide⟩ ⟨Nat.zero_le _, Nat.zero_le _⟩ (wDown O P Y g hu hd N D _) ?_
          rintro _ _ ⟨rfl, ⟨hz, rfl⟩ | ⟨hz, rfl⟩⟩
          · skip
            iterate 3 (refine zv_step (bX6_go 3) rfl rfl trivial ?_)
            refine zv_ift (rfl) ?_
            iterate 1 (refine zv_step (bX6_go 3) rfl rfl trivial ?_)
            exact zv_iret (bX6_go 3) rfl (Or.inl rfl) (Nat.zero_le _) (Nat.zero_le _) ⟨_, _, _, _, rfl, rfl, sdW_le hd, by have q := hr; intro h; obtain ⟨t, ht, k⟩ := q h; exact ⟨t, ⟨ht, k.1⟩, by rw [hO1]; exact rt_sd hu0 hp _ ht k⟩⟩
          · skip
            iterate 3 (refine zv_step (bX6_go 3) rfl rfl trivial ?_)
            refine zv_iff (by decide) ?_
            iterate 2 (refine zv_step (bX6_go 3) rfl rfl trivial ?_)
            refine zv_V0 (bX6_go 3) rfl rfl rfl rfl rfl rfl rfl ⟨rfl, rfl, rfl⟩ ⟨by decide, by decide⟩ ⟨Nat.zero_le _, Nat.zero_le _⟩ (wHere O P Y g (dd := (sdW (O 1) (P 4) (P 5) (nI 0 + Int32.ofInt 1) (dd, N, D)).1) (sdW_le hd) ((sdW (O 1) (P 4) (P 5) (nI 0 + Int32.ofInt 1) (dd, N, D)).2.1) ((sdW (O 1) (P 4) (P 5) (nI 0 + Int32.ofInt 1) (dd, N, D)).2.2)) ?_
            rintro _ _ ⟨rfl, rfl⟩
            iterate 1 (refine zv_step (bX6_go 3) rfl rfl trivial ?_)
            exact zv_iret (bX6_go 3) rfl (Or.inl rfl) (Nat.zero_le _) (Nat.zero_le _) ⟨_, _, _, _, rfl, rfl, sdW_le hd, by have q := hr; intro h; obtain ⟨t, ht, k⟩ := q h; exact ⟨t, ⟨ht, k.1⟩, by rw [hO1]; exact rt_sd hu0 hp _ ht k⟩⟩
        · iterate 1 (refine zv_step (bX6_go 3) rfl rfl trivial ?_)
          refine zv_step (bX6_go 3) rfl rfl (by decide) ?_
          iterate 7 (refine zv_step (bX6_go 3) rfl rfl trivial ?_)
          refine zv_V2 (bX6_go 3) rfl rfl rfl rfl rfl rfl rfl ⟨rfl, rfl, rfl⟩ ⟨by decide, by decide⟩ ⟨Nat.zero_le _, Nat.zero_le _⟩ (wDown O P Y g hu hd N D _) ?_
          rintro _ _ ⟨rfl, ⟨hz, rfl⟩ | ⟨hz, rfl⟩⟩
          · skip
            iterate 3 (refine zv_step (bX6_go 3) rfl rfl trivial ?_)
            refine zv_ift (rfl) ?_
            iterate 1 (refine zv_step (bX6_go 3) rfl rfl trivial ?_)
            exact zv_iret (bX6_go 3) rfl (Or.inl rfl) (Nat.zero_le _) (Nat.zero_le _) ⟨_, _, _, _, rfl, rfl, sdW_le hd, by have q := hr; intro h; obtain ⟨t, ht, k⟩ := q h; exact ⟨t, ⟨ht, k.1⟩, by rw [hO1]; exact rt_sd hu0 hp _ ht k⟩⟩
          · skip
            iterate 3 (refine zv_step (bX6_go 3) rfl rfl trivial ?_)
            refine zv_iff (by decide) ?_
            iterate 2 (refine zv_step (bX6_go 3) rfl rfl trivial ?_)
            refine zv_V0 (bX6_go 3) rfl rfl rfl rfl rfl rfl rfl ⟨rfl, rfl, rfl⟩ ⟨by decide, by decide⟩ ⟨Nat.zero_le _, Nat.zero_le _⟩ (wHere O P Y g (dd := (sdW (O 1) (P 4) (P 5) (nI 1 + Int32.ofInt 1) (dd, N, D)).1) (sdW_le hd) ((sdW (O 1) (P 4) (P 5) (nI 1 + Int32.ofInt 1) (dd, N, D)).2.1) ((sdW (O 1) (P 4) (P 5) (nI 1 + Int32.ofInt 1) (dd, N, D)).2.2)) ?_
            rintro _ _ ⟨rfl, rfl⟩
            iterate 1 (refine zv_step (bX6_go 3) rfl rfl trivial ?_)
            exact zv_iret (bX6_go 3) rfl (Or.inl rfl) (Nat.zero_le _) (Nat.zero_le _) ⟨_, _, _, _, rfl, rfl, sdW_le hd, by have q := hr; intro h; obtain ⟨t, ht, k⟩ := q h; exact ⟨t, ⟨ht, k.1⟩, by rw [hO1]; exact rt_sd hu0 hp _ ht k⟩⟩
        · iterate 1 (refine zv_step (bX6_go 3) rfl rfl trivial ?_)
          refine zv_step (bX6_go 3) rfl rfl (by decide) ?_
          iterate 2 (refine zv_step (bX6_go 3) rfl rfl trivial ?_)
          refine zv_V0 (bX6_go 3) rfl rfl rfl rfl rfl rfl rfl ⟨rfl, rfl, rfl⟩ ⟨by decide, by decide⟩ ⟨Nat.zero_le _, Nat.zero_le _⟩ (wUp O P Y g hd N D) ?_
          rintro _ _ ⟨rfl, ⟨hz, rfl⟩ | ⟨hz, rfl⟩⟩
          · skip
            iterate 4 (refine zv_step (bX6_go 3) rfl rfl trivial ?_)
            refine zv_ift (rfl) ?_
            iterate 1 (refine zv_step (bX6_go 3) rfl rfl trivial ?_)
            exact zv_iret (bX6_go 3) rfl (Or.inl rfl) (Nat.zero_le _) (Nat.zero_le _) ⟨dd - 1, N, D, _, rfl, rfl, by omega, by have q := hr; intro h; obtain ⟨t, ht, k⟩ := q h; exact ⟨t, ⟨ht, k.1⟩, rt_up k (by omega)⟩⟩
          · skip
            iterate 4 (refine zv_step (bX6_go 3) rfl rfl trivial ?_)
            refine zv_iff (by decide) ?_
            iterate 2 (refine zv_step (bX6_go 3) rfl rfl trivial ?_)
            refine zv_V0 (bX6_go 3) rfl rfl rfl rfl rfl rfl rfl ⟨rfl, rfl, rfl⟩ ⟨by decide, by decide⟩ ⟨Nat.zero_le _, Nat.zero_le _⟩ (wHere O P Y g (dd := dd - 1) (by omega) (N) (D)) ?_
            rintro _ _ ⟨rfl, rfl⟩
            iterate 1 (refine zv_step (bX6_go 3) rfl rfl trivial ?_)
            exact zv_iret (bX6_go 3) rfl (Or.inl rfl) (Nat.zero_le _) (Nat.zero_le _) ⟨dd - 1, N, D, _, rfl, rfl, by omega, by have q := hr; intro h; obtain ⟨t, ht, k⟩ := q h; exact ⟨t, ⟨ht, k.1⟩, rt_up k (by omega)⟩⟩
        · cases dd with
          | zero =>
            iterate 1 (refine zv_step (bX6_go 3) rfl rfl trivial ?_)
            refine zv_step (bX6_go 3) rfl rfl (by decide) ?_
            iterate 4 (refine zv_step (bX6_go 3) rfl rfl trivial ?_)
            refine zv_V1 (bX6_go 3) rfl rfl rfl rfl rfl rfl rfl ⟨rfl, rfl, rfl⟩ ⟨by decide, by decide⟩ ⟨Nat.zero_le _, Nat.zero_le _⟩ (wBeside0 O P Y g N D) ?_
            rintro _ _ ⟨rfl, rfl⟩
            iterate 4 (refine zv_step (bX6_go 3) rfl rfl trivial ?_)
            refine zv_ift (rfl) ?_
            iterate 1 (refine zv_step (bX6_go 3) rfl rfl trivial ?_)
            exact zv_iret (bX6_go 3) rfl (Or.inl rfl) (Nat.zero_le _) (Nat.zero_le _) ⟨0, N, D, _, rfl, rfl, by omega, fun h => by obtain ⟨t, ht, k⟩ := hr h; exact ⟨t, ⟨ht, k.1⟩, k⟩⟩
          | succ m =>
            iterate 1 (refine zv_step (bX6_go 3) rfl rfl trivial ?_)
            refine zv_step (bX6_go 3) rfl rfl (by decide) ?_
            iterate 4 (refine zv_step (bX6_go 3) rfl rfl trivial ?_)
            refine zv_V1 (bX6_go 3) rfl rfl rfl rfl rfl rfl rfl ⟨rfl, rfl, rfl⟩ ⟨by decide, by decide⟩ ⟨Nat.zero_le _, Nat.zero_le _⟩ (wBeside1 O P Y g hu hd N D) ?_
            rintro _ _ (⟨hz, rfl, rfl⟩ | ⟨hz, rfl, rfl⟩)
            · skip
              iterate 4 (refine zv_step (bX6_go 3) rfl rfl trivial ?_)
              refine zv_ift (rfl) ?_
              iterate 1 (refine zv_step (bX6_go 3) rfl rfl trivial ?_)
              exact zv_iret (bX6_go 3) rfl (Or.inl rfl) (Nat.zero_le _) (Nat.zero_le _) ⟨m + 1, N, D, _, rfl, rfl, hd, fun h => by obtain ⟨t, ht, k⟩ := hr h; exact ⟨t, ⟨ht, k.1⟩, k⟩⟩
            · skip
              iterate 4 (refine zv_step (bX6_go 3) rfl rfl trivial ?_)
              refine zv_iff (by decide) ?_
              iterate 2 (refine zv_step (bX6_go 3) rfl rfl trivial ?_)
              refine zv_V0 (bX6_go 3) rfl rfl rfl rfl rfl rfl rfl ⟨rfl, rfl, rfl⟩ ⟨by decide, by decide⟩ ⟨Nat.zero_le _, Nat.zero_le _⟩ (wHere O P Y g (dd := m + 1) (hd) (upd N (m + 1) (ptW (O 1) (P 4) (P 5) (N m) (Int32.ofInt 3 - D (m + 1)))) (upd D (m + 1) (Int32.ofInt 3 - D (m + 1)))) ?_
              rintro _ _ ⟨rfl, rfl⟩
              iterate 1 (refine zv_step (bX6_go 3) rfl rfl trivial ?_)
              exact zv_iret (bX6_go 3) rfl (Or.inl rfl) (Nat.zero_le _) (Nat.zero_le _) ⟨m + 1, _, _, _, rfl, rfl, hd, by have q := hr; intro h; obtain ⟨t, ht, k⟩ := q h; exact ⟨t, ⟨ht, k.1⟩, by rw [hO1] at hz ⊢; exact rt_set k (by omega) (by omega) (pt_ok hu0 hp k ht (by omega) hz)⟩⟩
      · iterate 1 (refine zv_step (bX6_go 3) rfl rfl trivial ?_)
        exact zv_iret (bX6_go 3) rfl (Or.inl rfl) (Nat.zero_le _) (Nat.zero_le _) ⟨dd, N, D, _, rfl, rfl, hd, fun h => by obtain ⟨t, ht, k⟩ := hr h; exact ⟨t, ⟨ht, k.1⟩, k⟩⟩
    · iterate 1 (refine zv_step (bX6_go 3) rfl rfl trivial ?_)
      exact zv_iret (bX6_go 3) rfl (Or.inl rfl) (Nat.zero_le _) (Nat.zero_le _) ⟨dd, N, D, _, rfl, rfl, hd, fun h => by obtain ⟨t, ht, k⟩ := hr h; exact ⟨t, ⟨ht, k.1⟩, k⟩⟩
set_option maxHeartbeats 1000000 in
set_option maxRecDepth 20000 in
theorem cLeadT (O : Nat → Int32) (P : Nat → Nat → Int32) (Y : Nat → Nat → Int64) (g : Nat → zC) {u : Nat} (hu0 : u ≤ 120) (h1 : O 1 = nI u) (hp : pgI u (P 2) (P 4) (P 5) (P 6)) {dd : Nat} (hb : O 13 = 0 ∨ O 13 = 1) (hr : O 13 = 1 → ∃ t, t < u ∧ rtN t dd (P 56)) (x : Int32) : zK 4 zX6_lead [.ref 0, .int x] (wX O P Y g) (fun r w' => (∃ v : Int32, r = some (.int v)) ∧ (w' = wX O P Y g ∨ ∃ (d' : Nat) (N' D' : Nat → Int32), w' = (wX (upd O 14 (nI d')) (updA (updA P 56 N') 57 D') Y g) ∧ d' < 40 ∧ (O 13 = 1 → ∃ t, (t < u ∧ P 56 0 = nI t) ∧ rtN t d' N'))) := by
  have hu : (O 1).toInt ≤ 120 := by rw [h1, nI_toInt (by omega)]; omega
  refine zK_of qX6_lead (by decide +kernel) rfl ?_
  iterate 2 (refine zv_step (bX6_lead 4) rfl rfl trivial ?_)
  refine zv_V0 (bX6_lead 4) rfl rfl rfl rfl rfl rfl rfl ⟨rfl, rfl, rfl⟩ ⟨by decide, by decide⟩ ⟨Nat.zero_le _, Nat.zero_le _⟩ (wBegun O P Y g hb) ?_
  rintro _ _ ⟨rfl, rfl⟩
  iterate 1 (refine zv_step (bX6_lead 4) rfl rfl trivial ?_)
  refine zv_ifb (fun h7 => ?_) (fun h7 => ?_)
  · iterate 5 (refine zv_step (bX6_lead 4) rfl rfl trivial ?_)
    refine zv_V2 (bX6_lead 4) rfl rfl rfl rfl rfl rfl rfl ⟨rfl, rfl, rfl⟩ ⟨by decide, by decide⟩ ⟨Nat.zero_le _, Nat.zero_le _⟩ (wFollow O P Y g hu _) ?_
    rintro _ _ (⟨hz, rfl, rfl⟩ | ⟨hz, rfl, rfl⟩)
    · have hle : (foW (O 1) (P 4) (P 5) 20 x (0, P 56, P 57)).1 < 40 := foW_le _ _ _ (show 0 < 40 by decide)
      have hk : O 13 = 1 → ∃ t, (t < u ∧ P 56 0 = nI t) ∧ rtN t (foW (O 1) (P 4) (P 5) 20 x (0, P 56, P 57)).1 (foW (O 1) (P 4) (P 5) 20 x (0, P 56, P 57)).2.1 := fun h => by
        obtain ⟨t, ht, k⟩ := hr h
        refine ⟨t, ⟨ht, k.1⟩, ?_⟩
        rw [h1]
        exact (rt_fo hu0 hp ht 20 x (0, P 56, P 57) (show 0 < 40 by decide)).2 (rt_up k (Nat.zero_le _))
      generalize (foW (O 1) (P 4) (P 5) 20 x (0, P 56, P 57)) = s at hle hk ⊢
      iterate 1 (refine zv_step (bX6_lead 4) rfl rfl trivial ?_)
      refine zv_iff (by decide) ?_
      iterate 2 (refine zv_step (bX6_lead 4) rfl rfl trivial ?_)
      refine zv_V0 (bX6_lead 4) rfl rfl rfl rfl rfl rfl rfl ⟨rfl, rfl, rfl⟩ ⟨by decide, by decide⟩ ⟨Nat.zero_le _, Nat.zero_le _⟩ (wHere O P Y g (dd := s.1) hle s.2.1 s.2.2) ?_
      rintro _ _ ⟨rfl, rfl⟩
      iterate 1 (refine zv_step (bX6_lead 4) rfl rfl trivial ?_)
      exact zv_iret (bX6_lead 4) rfl (Or.inl rfl) (Nat.zero_le _) (Nat.zero_le _) ⟨⟨_, rfl⟩, Or.inr ⟨_, _, _, rfl, hle, hk⟩⟩
    · skip
      iterate 1 (refine zv_step (bX6_lead 4) rfl rfl trivial ?_)
      refine zv_ift (rfl) ?_
      iterate 1 (refine zv_step (bX6_lead 4) rfl rfl trivial ?_)
      exact zv_iret (bX6_lead 4) rfl (Or.inl rfl) (Nat.zero_le _) (Nat.zero_le _) ⟨⟨_, rfl⟩, Or.inl rfl⟩
  · iterate 1 (refine zv_step (bX6_lead 4) rfl rfl trivial ?_)
    exact zv_iret (bX6_lead 4) rfl (Or.inl rfl) (Nat.zero_le _) (Nat.zero_le _) ⟨⟨_, rfl⟩, Or.inl rfl⟩
set_option maxHeartbeats 1000000 in
set_option maxRecDepth 20000 in
theorem mGoT (f : Nat → zC) (o : Nat → Int32) (A : Nat → Nat → Int32) (J : Nat → Nat → Int64) {u : Nat} (hu : u ≤ 120) (hT : tbI 0 u A) {d : Nat} (hd : d ≤ 39) {N : Nat → Int32} (D : Nat → Int32) (hb : o 30 = 0 ∨ o 30 = 1) (hr : o 30 = 1 → ∃ t, t < u ∧ rtM A t d N) (x : Int32) : zK 2 zX7_go [.ref 76, .int x] (wR f (upd o 33 (nI d)) (updA (updA A 20 N) 21 D) J) (fun r w' => ∃ (d' : Nat) (N' D' : Nat → Int32) (R : Int32), r = some (.int R) ∧ w' = (wR f (upd o 33 (nI d')) (updA (updA A 20 N') 21 D') J) ∧ (o 30 = 1 → ∃ t, (t < u ∧ N 0 = nI t) ∧ rtM A t d' N') ∧ d' ≤ 39) := by
  refine zK_of qX7_go (by decide +kernel) rfl ?_
  iterate 4 (refine zv_step (bX7_go 2) rfl rfl trivial ?_)
  refine zv_S3 (bX7_go 2) rfl rfl rfl rfl ⟨rfl, rfl, rfl⟩ ⟨by decide, by decide⟩ ⟨Nat.zero_le _, Nat.zero_le _⟩ (mIn _ _ _ _ (a := 0) (b := 3) (by decide) (by decide)) ?_
  rintro _ _ ⟨rfl, ⟨g1, rfl⟩ | ⟨g1, rfl⟩⟩
  · skip
    iterate 1 (refine zv_step (bX7_go 2) rfl rfl trivial ?_)
    refine zv_ift (by decide) ?_
    iterate 3 (refine zv_step (bX7_go 2) rfl rfl trivial ?_)
    refine zv_ifb (fun h18 => ?_) (fun h18 => ?_)
    · obtain ⟨t, ht, hr0⟩ := hr (hb.resolve_left h18)
      iterate 3 (refine zv_step (bX7_go 2) rfl rfl trivial ?_)
      refine zv_ifb (fun h26 => ?_) (fun h26 => ?_)
      · iterate 3 (refine zv_step (bX7_go 2) rfl rfl trivial ?_)
        refine zv_ifb (fun h56 => ?_) (fun h56 => ?_)
        · iterate 1 (refine zv_step (bX7_go 2) rfl rfl trivial ?_)
          exact zv_iret (bX7_go 2) rfl (Or.inl rfl) (Nat.zero_le _) (Nat.zero_le _) ⟨d, N, D, _, rfl, rfl, fun h => by obtain ⟨t, ht, k⟩ := hr h; exact ⟨t, ⟨ht, k.1⟩, k⟩, hd⟩
        · have d0 : d ≠ 0 := fun e => h56 (by rw [e]; rfl)
          obtain ⟨j, hj, ej, hz⟩ := hr0.2 (d - 1) (by omega)
          have em : nI d - Int32.ofInt 1 = nI (d - 1) := sub_1 (by omega)
          iterate 3 (refine zv_step (bX7_go 2) rfl rfl trivial ?_)
          refine zv_ifb (fun h61 => ?_) (fun h61 => ?_)
          · iterate 6 (refine zv_step (bX7_go 2) rfl rfl trivial ?_)
            refine zv_world (show _ = (wR f (upd o 33 (nI (d - 1))) (updA (updA A 20 N) 21 D) J) from by rw [← em]; rfl) ?_
            iterate 3 (refine zv_step (bX7_go 2) rfl rfl trivial ?_)
            refine zv_ifb (fun h98 => ?_) (fun h98 => ?_)
            · iterate 4 (refine zv_step (bX7_go 2) rfl rfl trivial ?_)
              refine zv_step (bX7_go 2) rfl rfl (show vp_in (nI (d - 1)) 41 from vp_in_nI (by omega) (by decide)) ?_
              exact zv_iret (bX7_go 2) rfl (Or.inl rfl) (Nat.zero_le _) (Nat.zero_le _) ⟨d - 1, N, D, _, rfl, rfl, fun _ => ⟨t, ⟨ht, hr0.1⟩, rtM_up hr0 (by omega)⟩, by omega⟩
            · iterate 8 (refine zv_step (bX7_go 2) rfl rfl trivial ?_)
              refine zv_step (bX7_go 2) rfl rfl (show vp_in (nI (d - 1) + Int32.ofInt 1) 41 by rw [show nI (d - 1) + Int32.ofInt 1 = nI (d - 1 + 1) from nI_1 _]; exact vp_in_nI (by omega) (by decide)) ?_
              iterate 1 (refine zv_step (bX7_go 2) rfl rfl trivial ?_)
              refine zv_V1 (bX7_go 2) rfl rfl rfl rfl rfl rfl rfl ⟨rfl, rfl, rfl⟩ ⟨by decide, by decide⟩ ⟨Nat.zero_le _, Nat.zero_le _⟩ (mDown f o A J hu hT ht D (rtM_up hr0 (show d - 1 ≤ d by omega)) _) ?_
              rintro _ _ ⟨d1, N1, D1, rfl, hr1, rfl | rfl⟩
              · have hd1 := rtM_d hT ht hr1
                iterate 5 (refine zv_step (bX7_go 2) rfl rfl trivial ?_)
                refine zv_step (bX7_go 2) rfl rfl (show vp_in (nI d1) 41 from vp_in_nI (by omega) (by decide)) ?_
                exact zv_iret (bX7_go 2) rfl (Or.inl rfl) (Nat.zero_le _) (Nat.zero_le _) ⟨d1, N1, D1, _, rfl, rfl, fun _ => ⟨t, ⟨ht, hr0.1⟩, hr1⟩, hd1⟩
              · have hd1 := rtM_d hT ht hr1
                iterate 5 (refine zv_step (bX7_go 2) rfl rfl trivial ?_)
                refine zv_step (bX7_go 2) rfl rfl (show vp_in (nI d1) 41 from vp_in_nI (by omega) (by decide)) ?_
                exact zv_iret (bX7_go 2) rfl (Or.inl rfl) (Nat.zero_le _) (Nat.zero_le _) ⟨d1, N1, D1, _, rfl, rfl, fun _ => ⟨t, ⟨ht, hr0.1⟩, hr1⟩, hd1⟩
          · iterate 8 (refine zv_step (bX7_go 2) rfl rfl trivial ?_)
            refine zv_iale (bX7_go 2) rfl rfl (show vp_in (nI d - Int32.ofInt 1) 41 by rw [em]; exact vp_in_nI (by omega) (by decide)) (show N (nI d - Int32.ofInt 1).toNatClampNeg = nI j by rw [em, nI_clamp (by omega)]; exact ej) ?_
            refine zv_step (bX7_go 2) rfl rfl (vp_in_nI (by omega) (by decide)) ?_
            iterate 1 (refine zv_step (bX7_go 2) rfl rfl trivial ?_)
            refine zv_ifb (fun h80 => ?_) (fun h80 => ?_)
            · iterate 6 (refine zv_step (bX7_go 2) rfl rfl trivial ?_)
              refine zv_world (show _ = (wR f (upd o 33 (nI (d - 1))) (updA (updA A 20 N) 21 D) J) from by rw [← em]; rfl) ?_
              iterate 3 (refine zv_step (bX7_go 2) rfl rfl trivial ?_)
              refine zv_ifb (fun h98 => ?_) (fun h98 => ?_)
              · iterate 4 (refine zv_step (bX7_go 2) rfl rfl trivial ?_)
                refine zv_step (bX7_go 2) rfl rfl (show vp_in (nI (d - 1)) 41 from vp_in_nI (by omega) (by decide)) ?_
                exact zv_iret (bX7_go 2) rfl (Or.inl rfl) (Nat.zero_le _) (Nat.zero_le _) ⟨d - 1, N, D, _, rfl, rfl, fun _ => ⟨t, ⟨ht, hr0.1⟩, rtM_up hr0 (by omega)⟩, by omega⟩
              · iterate 8 (refine zv_step (bX7_go 2) rfl rfl trivial ?_)
                refine zv_step (bX7_go 2) rfl rfl (show vp_in (nI (d - 1) + Int32.ofInt 1) 41 by rw [show nI (d - 1) + Int32.ofInt 1 = nI (d - 1 + 1) from nI_1 _]; exact vp_in_nI (by omega) (by decide)) ?_
                iterate 1 (refine zv_step (bX7_go 2) rfl rfl trivial ?_)
                refine zv_V1 (bX7_go 2) rfl rfl rfl rfl rfl rfl rfl ⟨rfl, rfl, rfl⟩ ⟨by decide, by decide⟩ ⟨Nat.zero_le _, Nat.zero_le _⟩ (mDown f o A J hu hT ht D (rtM_up hr0 (show d - 1 ≤ d by omega)) _) ?_
                rintro _ _ ⟨d1, N1, D1, rfl, hr1, rfl | rfl⟩
                · have hd1 := rtM_d hT ht hr1
                  iterate 5 (refine zv_step (bX7_go 2) rfl rfl trivial ?_)
                  refine zv_step (bX7_go 2) rfl rfl (show vp_in (nI d1) 41 from vp_in_nI (by omega) (by decide)) ?_
                  exact zv_iret (bX7_go 2) rfl (Or.inl rfl) (Nat.zero_le _) (Nat.zero_le _) ⟨d1, N1, D1, _, rfl, rfl, fun _ => ⟨t, ⟨ht, hr0.1⟩, hr1⟩, hd1⟩
                · have hd1 := rtM_d hT ht hr1
                  iterate 5 (refine zv_step (bX7_go 2) rfl rfl trivial ?_)
                  refine zv_step (bX7_go 2) rfl rfl (show vp_in (nI d1) 41 from vp_in_nI (by omega) (by decide)) ?_
                  exact zv_iret (bX7_go 2) rfl (Or.inl rfl) (Nat.zero_le _) (Nat.zero_le _) ⟨d1, N1, D1, _, rfl, rfl, fun _ => ⟨t, ⟨ht, hr0.1⟩, hr1⟩, hd1⟩
            · iterate 1 (refine zv_step (bX7_go 2) rfl rfl trivial ?_)
              exact zv_iret (bX7_go 2) rfl (Or.inl rfl) (Nat.zero_le _) (Nat.zero_le _) ⟨d, N, D, _, rfl, rfl, fun h => by obtain ⟨t, ht, k⟩ := hr h; exact ⟨t, ⟨ht, k.1⟩, k⟩, hd⟩
      · iterate 2 (refine zv_step (bX7_go 2) rfl rfl trivial ?_)
        refine zv_V1 (bX7_go 2) rfl rfl rfl rfl rfl rfl rfl ⟨rfl, rfl, rfl⟩ ⟨by decide, by decide⟩ ⟨Nat.zero_le _, Nat.zero_le _⟩ (mDown f o A J hu hT ht D hr0 _) ?_
        rintro _ _ ⟨d1, N1, D1, rfl, hr1, rfl | rfl⟩
        · have hd1 := rtM_d hT ht hr1
          iterate 1 (refine zv_step (bX7_go 2) rfl rfl trivial ?_)
          refine zv_iff (by decide) ?_
          iterate 4 (refine zv_step (bX7_go 2) rfl rfl trivial ?_)
          refine zv_step (bX7_go 2) rfl rfl (show vp_in (nI d1) 41 from vp_in_nI (by omega) (by decide)) ?_
          iterate 1 (refine zv_step (bX7_go 2) rfl rfl trivial ?_)
          exact zv_iret (bX7_go 2) rfl (Or.inl rfl) (Nat.zero_le _) (Nat.zero_le _) ⟨d1, N1, D1, _, rfl, rfl, fun _ => ⟨t, ⟨ht, hr0.1⟩, hr1⟩, hd1⟩
        · have hd1 := rtM_d hT ht hr1
          iterate 1 (refine zv_step (bX7_go 2) rfl rfl trivial ?_)
          refine zv_ift (by decide) ?_
          iterate 1 (refine zv_step (bX7_go 2) rfl rfl trivial ?_)
          exact zv_iret (bX7_go 2) rfl (Or.inl rfl) (Nat.zero_le _) (Nat.zero_le _) ⟨d1, N1, D1, _, rfl, rfl, fun _ => ⟨t, ⟨ht, hr0.1⟩, hr1⟩, hd1⟩
    · iterate 1 (refine zv_step (bX7_go 2) rfl rfl trivial ?_)
      exact zv_iret (bX7_go 2) rfl (Or.inl rfl) (Nat.zero_le _) (Nat.zero_le _) ⟨d, N, D, _, rfl, rfl, fun h => by obtain ⟨t, ht, k⟩ := hr h; exact ⟨t, ⟨ht, k.1⟩, k⟩, hd⟩
  · skip
    iterate 1 (refine zv_step (bX7_go 2) rfl rfl trivial ?_)
    refine zv_iff (by decide) ?_
    iterate 1 (refine zv_step (bX7_go 2) rfl rfl trivial ?_)
    exact zv_iret (bX7_go 2) rfl (Or.inl rfl) (Nat.zero_le _) (Nat.zero_le _) ⟨d, N, D, _, rfl, rfl, fun h => by obtain ⟨t, ht, k⟩ := hr h; exact ⟨t, ⟨ht, k.1⟩, k⟩, hd⟩
set_option maxHeartbeats 1000000 in
set_option maxRecDepth 20000 in
theorem mLeadT (f : Nat → zC) (o : Nat → Int32) (A : Nat → Nat → Int32) (J : Nat → Nat → Int64) {u : Nat} (hu : u ≤ 120) (hT : tbI 0 u A) {d : Nat} (hb : o 30 = 0 ∨ o 30 = 1) (hr : o 30 = 1 → ∃ t, t < u ∧ rtM A t d (A 20)) (x : Int32) : zK 2 zX7_lead [.ref 76, .int x] (wR f o A J) (fun r w' => (∃ R : Int32, r = some (.int R)) ∧ (w' = (wR f o A J) ∨ ∃ (d' : Nat) (N' D' : Nat → Int32), w' = (wR f (upd o 33 (nI d')) (updA (updA A 20 N') 21 D') J) ∧ (o 30 = 1 → ∃ t, (t < u ∧ A 20 0 = nI t) ∧ rtM A t d' N') ∧ d' ≤ 39)) := by
  refine zK_of qX7_lead (by decide +kernel) rfl ?_
  iterate 3 (refine zv_step (bX7_lead 2) rfl rfl trivial ?_)
  refine zv_ifb (fun h4 => ?_) (fun h4 => ?_)
  · obtain ⟨t, ht, hr0⟩ := hr (hb.resolve_left h4)
    iterate 3 (refine zv_step (bX7_lead 2) rfl rfl trivial ?_)
    refine zv_iale (bX7_lead 2) rfl rfl (show vp_in (nI 0) 41 from vp_in_nI (by decide) (by decide)) (show A 20 0 = nI t from hr0.1) ?_
    iterate 3 (refine zv_step (bX7_lead 2) rfl rfl trivial ?_)
    refine zv_weak (fun r w q => ?_) (leadL1 f o A J hu hT ht hr0 x.toInt.toNat x (nI t) (by omega) (Or.inr ⟨t, rfl, ht⟩))
    obtain ⟨e1, e2 | ⟨d1, N1, D1, e2, e3, e4⟩⟩ := q
    · exact ⟨e1, Or.inl e2⟩
    · exact ⟨e1, Or.inr ⟨d1, N1, D1, e2, fun _ => ⟨t, ⟨ht, hr0.1⟩, e3⟩, e4⟩⟩
  · iterate 1 (refine zv_step (bX7_lead 2) rfl rfl trivial ?_)
    exact zv_iret (bX7_lead 2) rfl (Or.inl rfl) (Nat.zero_le _) (Nat.zero_le _) ⟨⟨_, rfl⟩, Or.inl rfl⟩
/-- what doubt changes of the class, and of the reference -/
def dbC (O : Nat → Int32) (P : Nat → Nat → Int32) (O' : Nat → Int32) (P' : Nat → Nat → Int32) (Y' : Nat → Nat → Int64) : Prop := wyI Y' ∧ (∀ j, j ≠ 2 → j ≠ 10 → j ≠ 11 → j ≠ 12 → O' j = O j) ∧ (∀ i, ¬ (14 < i ∧ i ≤ 14 + 12) → P' i = P i)
def dbM (o : Nat → Int32) (u : Nat) (A : Nat → Nat → Int32) (o' : Nat → Int32) (A' : Nat → Nat → Int32) : Prop := (o' 0 = nI u ∧ tbI 0 u A') ∧ (∀ j, j ≠ 0 → j ≠ 28 → j ≠ 29 → o' j = o j) ∧ (∀ r, 6 ≤ r → A' r = A r) ∧ (∀ r i, i < u → A' r i = A r i)
set_option maxHeartbeats 1000000 in
set_option maxRecDepth 20000 in
theorem cDoubtT (O : Nat → Int32) (P : Nat → Nat → Int32) (Y : Nat → Nat → Int64) (g : Nat → zC) {u : Nat} (hu : u ≤ 120) (hO1 : O 1 = nI u) (hp : pgB 1 u P) (hY : wyI Y) {l : Nat} (hl : l ≤ 20) (hO : O 9 = nI l) (x : Int32) (k k2 : Int64) : zK 66 zX6_doubt [.ref 0, .int x, .long k, .long k2] (wX O P Y g) (fun r w' => ∃ (O' : Nat → Int32) (P' : Nat → Nat → Int32) (Y' : Nat → Nat → Int64) (R : Int32), r = some (.int R) ∧ w' = wX O' P' Y' g ∧ dbC O P O' P' Y') := by
  refine zK_of qX6_doubt (by decide +kernel) rfl ?_
  iterate 1 (refine zv_step (bX6_doubt 66) rfl rfl trivial ?_)
  refine zv_S1 (bX6_doubt 66) rfl rfl rfl rfl ⟨rfl, rfl, rfl⟩ ⟨by decide, by decide⟩ ⟨Nat.zero_le _, Nat.zero_le _⟩ (hX6_isStyleOrFree _ _) ?_
  rintro _ _ ⟨rfl, ⟨hx, rfl⟩ | ⟨hx, rfl⟩⟩
  · iterate 1 (refine zv_step (bX6_doubt 66) rfl rfl trivial ?_)
    refine zv_iff (by decide) ?_
    iterate 4 (refine zv_step (bX6_doubt 66) rfl rfl trivial ?_)
    refine zv_ifb (fun h1 => ?_) (fun h1 => ?_)
    · iterate 1 (refine zv_step (bX6_doubt 66) rfl rfl trivial ?_)
      exact zv_iret (bX6_doubt 66) rfl (Or.inl rfl) (Nat.zero_le _) (Nat.zero_le _) ⟨O, P, Y, _, rfl, rfl, hY, fun _ _ _ _ _ => rfl, fun _ _ => rfl⟩
    · iterate 4 (refine zv_step (bX6_doubt 66) rfl rfl trivial ?_)
      refine zv_ifb (fun h2 => ?_) (fun h2 => ?_)
      · iterate 2 (refine zv_step (bX6_doubt 66) rfl rfl trivial ?_)
        refine zv_V1 (bX6_doubt 66) rfl rfl rfl rfl rfl rfl rfl ⟨rfl, rfl, rfl⟩ ⟨by decide, by decide⟩ ⟨Nat.zero_le _, Nat.zero_le _⟩ (cTallyIn O P Y g hl hO hx) ?_
        rintro _ _ ⟨a, b, Y1, v, rfl, rfl, hw⟩
        iterate 5 (refine zv_step (bX6_doubt 66) rfl rfl trivial ?_)
        refine zv_ifb (fun h3 => ?_) (fun h3 => ?_)
        · iterate 1 (refine zv_step (bX6_doubt 66) rfl rfl trivial ?_)
          exact zv_iret (bX6_doubt 66) rfl (Or.inl rfl) (Nat.zero_le _) (Nat.zero_le _) ⟨_, P, Y1, _, rfl, rfl, hw hY, fun j b2 b3 b4 b5 => upd_3 O a b (O 0) b3 b4 b5, fun _ _ => rfl⟩
        · iterate 4 (refine zv_step (bX6_doubt 66) rfl rfl trivial ?_)
          refine zv_ifb (fun h4 => ?_) (fun h4 => ?_)
          · iterate 4 (refine zv_step (bX6_doubt 66) rfl rfl trivial ?_)
            refine zv_ifb (fun h5 => ?_) (fun h5 => ?_)
            · iterate 9 (refine zv_step (bX6_doubt 66) rfl rfl trivial ?_)
              refine zv_V2 (bX6_doubt 66) rfl rfl rfl rfl rfl rfl rfl ⟨rfl, rfl, rfl⟩ ⟨by decide, by decide⟩ ⟨Nat.zero_le _, Nat.zero_le _⟩ (hBuild14 (upd (upd (upd O 10 a) 11 b) 12 (O 0)) Y1 g (hw hY) (u := 0) (P := P) (by omega) (fun n hn => absurd hn (by omega)) hl hO _) ?_
              rintro _ _ ⟨u1, P1, R1, rfl, rfl, q1, q2, q3⟩
              iterate 6 (refine zv_step (bX6_doubt 66) rfl rfl trivial ?_)
              refine zv_V2 (bX6_doubt 66) rfl rfl rfl rfl rfl rfl rfl ⟨rfl, rfl, rfl⟩ ⟨by decide, by decide⟩ ⟨Nat.zero_le _, Nat.zero_le _⟩ (hBuild14 (upd (upd (upd O 10 a) 11 b) 12 (O 0)) Y1 g (hw hY) q1.2.1 q1.2.2.1 hl hO _) ?_
              rintro _ _ ⟨u2, P2, R2, rfl, rfl, p1, p2, p3⟩
              iterate 5 (refine zv_step (bX6_doubt 66) rfl rfl trivial ?_)
              refine zv_V2 (bX6_doubt 66) rfl rfl rfl rfl rfl rfl rfl ⟨rfl, rfl, rfl⟩ ⟨by decide, by decide⟩ ⟨Nat.zero_le _, Nat.zero_le _⟩ (pUnlike (upd (upd (upd (upd O 10 a) 11 b) 12 (O 0)) 2 (nI u2)) P2 Y1 g (show (nI u2).toInt ≤ 120 by have := p1.2.1; rw [nI_toInt (by omega)]; omega) _ _) ?_
              rintro _ _ ⟨rfl, v3, rfl⟩
              exact zv_iret (bX6_doubt 66) rfl (Or.inl rfl) (Nat.zero_le _) (Nat.zero_le _) ⟨_, P2, Y1, _, rfl, rfl, hw hY, fun j b2 b3 b4 b5 => (upd_ne _ _ b2).trans (upd_3 O a b (O 0) b3 b4 b5), (fun i hi => (p1.2.2.2.2 i hi).trans (q1.2.2.2.2 i hi))⟩
            · iterate 1 (refine zv_step (bX6_doubt 66) rfl rfl trivial ?_)
              exact zv_iret (bX6_doubt 66) rfl (Or.inl rfl) (Nat.zero_le _) (Nat.zero_le _) ⟨_, P, Y1, _, rfl, rfl, hw hY, fun j b2 b3 b4 b5 => upd_3 O a b (O 0) b3 b4 b5, fun _ _ => rfl⟩
          · iterate 1 (refine zv_step (bX6_doubt 66) rfl rfl trivial ?_)
            exact zv_iret (bX6_doubt 66) rfl (Or.inl rfl) (Nat.zero_le _) (Nat.zero_le _) ⟨_, P, Y1, _, rfl, rfl, hw hY, fun j b2 b3 b4 b5 => upd_3 O a b (O 0) b3 b4 b5, fun _ _ => rfl⟩
      · iterate 1 (refine zv_step (bX6_doubt 66) rfl rfl trivial ?_)
        exact zv_iret (bX6_doubt 66) rfl (Or.inl rfl) (Nat.zero_le _) (Nat.zero_le _) ⟨O, P, Y, _, rfl, rfl, hY, fun _ _ _ _ _ => rfl, fun _ _ => rfl⟩
  · iterate 1 (refine zv_step (bX6_doubt 66) rfl rfl trivial ?_)
    refine zv_ift (by decide) ?_
    iterate 1 (refine zv_step (bX6_doubt 66) rfl rfl trivial ?_)
    exact zv_iret (bX6_doubt 66) rfl (Or.inl rfl) (Nat.zero_le _) (Nat.zero_le _) ⟨O, P, Y, _, rfl, rfl, hY, fun _ _ _ _ _ => rfl, fun _ _ => rfl⟩

set_option maxHeartbeats 1000000 in
set_option maxRecDepth 20000 in
theorem mDoubtT (f : Nat → zC) (o : Nat → Int32) (A : Nat → Nat → Int32) (J : Nat → Nat → Int64) {u : Nat} (hu : u ≤ 120) (ho : o 0 = nI u) (hT : tbI 0 u A) {h : Nat} (hh : h ≤ 20) (hw : nnW h (A 8)) (ho10 : o 10 = nI h) (x : Int32) (z1 z2 : Int64) : zK 60 zX7_doubt [.ref 76, .int x, .long z1, .long z2] (wR f o A J) (fun r w' => ∃ (o' : Nat → Int32) (A' : Nat → Nat → Int32) (J' : Nat → Nat → Int64) (R : Int32), r = some (.int R) ∧ w' = wR f o' A' J' ∧ dbM o u A o' A') := by
  refine zK_of qX7_doubt (by decide +kernel) rfl ?_
  iterate 4 (refine zv_step (bX7_doubt 60) rfl rfl trivial ?_)
  refine zv_S3 (bX7_doubt 60) rfl rfl rfl rfl ⟨rfl, rfl, rfl⟩ ⟨by decide, by decide⟩ ⟨Nat.zero_le _, Nat.zero_le _⟩ (mIn _ _ _ _ (a := 0) (b := 8) (by decide) (by decide)) ?_
  rintro _ _ ⟨rfl, ⟨g1, rfl⟩ | ⟨g1, rfl⟩⟩
  · obtain ⟨s, hs, rfl⟩ := in_nat (x := x) (b := 8) (by decide) g1
    iterate 1 (refine zv_step (bX7_doubt 60) rfl rfl trivial ?_)
    refine zv_iff (by decide) ?_
    iterate 4 (refine zv_step (bX7_doubt 60) rfl rfl trivial ?_)
    refine zv_ifb (fun h15 => ?_) (fun h15 => ?_)
    · iterate 1 (refine zv_step (bX7_doubt 60) rfl rfl trivial ?_)
      exact zv_iret (bX7_doubt 60) rfl (Or.inl rfl) (Nat.zero_le _) (Nat.zero_le _) ⟨o, A, J, _, rfl, rfl, ⟨ho, hT⟩, fun _ _ _ _ => rfl, fun _ _ => rfl, fun _ _ _ => rfl⟩
    · have z10 : 0 ≤ z1.toInt := by
        rw [lg_cmp_lt, Int64.lt_iff_toInt_lt] at h15
        exact Int.not_lt.mp h15
      iterate 4 (refine zv_step (bX7_doubt 60) rfl rfl trivial ?_)
      refine zv_ifb (fun h22 => ?_) (fun h22 => ?_)
      · have z20 : 0 ≤ z2.toInt := by
          rw [lg_cmp_ge, Int64.le_iff_toInt_le] at h22
          exact h22
        iterate 4 (refine zv_step (bX7_doubt 60) rfl rfl trivial ?_)
        refine zv_ifb (fun h31 => ?_) (fun h31 => ?_)
        · iterate 3 (refine zv_step (bX7_doubt 60) rfl rfl trivial ?_)
          refine zv_V1 (bX7_doubt 60) rfl rfl rfl rfl rfl rfl rfl ⟨rfl, rfl, rfl⟩ ⟨by decide, by decide⟩ ⟨Nat.zero_le _, Nat.zero_le _⟩ (mCounted f o A J hh hw ho10 hs rfl) ?_
          rintro _ _ ⟨J2, rfl, rfl, hJ2⟩
          refine zv_world (show _ = wR f (upd o 28 (nI s)) A J2 from rfl) ?_
          iterate 2 (refine zv_step (bX7_doubt 60) rfl rfl trivial ?_)
          refine zv_ifb (fun h54 => ?_) (fun h54 => ?_)
          · iterate 1 (refine zv_step (bX7_doubt 60) rfl rfl trivial ?_)
            exact zv_iret (bX7_doubt 60) rfl (Or.inl rfl) (Nat.zero_le _) (Nat.zero_le _) ⟨(upd o 28 (nI s)), A, J2, _, rfl, rfl, ⟨ho, hT⟩, fun j a b c => upd_ne _ _ b, fun _ _ => rfl, fun _ _ _ => rfl⟩
          · iterate 3 (refine zv_step (bX7_doubt 60) rfl rfl trivial ?_)
            refine zv_V1 (bX7_doubt 60) rfl rfl rfl rfl rfl rfl rfl ⟨rfl, rfl, rfl⟩ ⟨by decide, by decide⟩ ⟨Nat.zero_le _, Nat.zero_le _⟩ (mCounted f (upd o 28 (nI s)) A J2 hh hw ho10 hs rfl) ?_
            rintro _ _ ⟨J3, rfl, rfl, hJ3⟩
            refine zv_world (show _ = wR f (upd o 28 (nI s)) A J3 from rfl) ?_
            iterate 2 (refine zv_step (bX7_doubt 60) rfl rfl trivial ?_)
            refine zv_ifb (fun h65 => ?_) (fun h65 => ?_)
            · obtain ⟨p1, hp1, rfl⟩ := l_nat z10 (ctW_le hJ3) (by rw [← ctW_u hJ2 hJ3]; exact Int64.not_le.mp (fun e => h54 ((lg_cmp_ge _ _).mpr e)))
              obtain ⟨p2, hp2, rfl⟩ := l_nat z20 (ctW_le hJ3) ((lg_cmp_lt _ _).mp h65)
              obtain ⟨h0, hp1⟩ := ctW_lt hp1
              obtain ⟨_, hp2⟩ := ctW_lt hp2
              iterate 3 (refine zv_step (bX7_doubt 60) rfl rfl trivial ?_)
              refine zv_world (show _ = wR f (upd (upd o 28 (nI s)) 29 (nI 0)) A J3 from rfl) ?_
              iterate 5 (refine zv_step (bX7_doubt 60) rfl rfl trivial ?_)
              refine zv_V3 (bX7_doubt 60) rfl rfl rfl rfl rfl rfl rfl ⟨rfl, rfl, rfl⟩ ⟨by show 2 * h + 3 + 1 ≤ 60; omega, by show 8 + (12 + 11) + 64 * (2 * h + 3) ≤ 64 * 60; omega⟩ ⟨Nat.zero_le _, Nat.zero_le _⟩ (mTakes f (upd o 28 (nI s)) A J3 hh hw hJ3 h 0 h p1 _ _ _ rfl ho10 rfl h0 (Nat.le_refl _) (by omega) hp1 0 A (fun _ _ => rfl) (fun n h1 h2 => absurd h2 (by omega)) (by omega)) ?_
              rintro _ _ ⟨q1, A1, rfl, rfl, k1, r1⟩
              iterate 6 (refine zv_step (bX7_doubt 60) rfl rfl trivial ?_)
              refine zv_V3 (bX7_doubt 60) rfl rfl rfl rfl rfl rfl rfl ⟨rfl, rfl, rfl⟩ ⟨by show 2 * h + 3 + 1 ≤ 60; omega, by show 8 + (12 + 11) + 64 * (2 * h + 3) ≤ 64 * 60; omega⟩ ⟨Nat.zero_le _, Nat.zero_le _⟩ (mTakes f (upd o 28 (nI s)) A J3 hh hw hJ3 h 0 h p2 _ _ _ rfl ho10 rfl h0 (Nat.le_refl _) (by omega) hp2 (q1 + 1) A1 k1.1 k1.2.1 (by have := k1.2.2.2.2.1; omega)) ?_
              rintro _ _ ⟨q2, A2, rfl, rfl, k2, r2⟩
              iterate 5 (refine zv_step (bX7_doubt 60) rfl rfl trivial ?_)
              have l1 := k1.2.2.2.2.1
              have l2 := k2.2.2.2.2.1
              have m1 := k1.2.2.2.1
              have m2' := k2.2.2.2.1
              have hne : p1 ≠ p2 := fun e => h31 ((lg_cmp_eq _ _).mpr (by rw [e]))
              have hR1 : Rd (eW A) (mW A s (lW J3)) (lW J3) A2 h 0 h p1 (400 + q1) := Rd_fr h 0 h p1 (400 + q1) (by omega) (fun r _ x _ hx => k2.2.2.1 r x (by omega)) r1
              have hun : ¬ alk A2 40 (nI (400 + q1)) (nI (400 + q2)) := fun e => hne (Rd_inj h 0 h p1 p2 (400 + q1) (400 + q2) 40 (by omega) (by omega) hR1 r2 e)
              have hs1 : szN A2 (400 + q1) ≤ 40 := (rN_sz (k2.2.1 (400 + q1) (by omega) (by omega))).2.1
              refine zv_locals (l := [(9, .int (Int32.ofInt 1)), (8, .int (Int32.ofInt 0)), (7, .int (nI (400 + q2))), (6, .int (nI (400 + q1))), (0, .ref 76), (1, .int (nI s)), (2, .long (lN p1)), (4, .long (lN p2))]) (l' := [(9, .int (Int32.ofInt 1)), (8, .int (Int32.ofInt 0)), (7, .int (nI (400 + q2))), (6, .int (nI (400 + q1))), (0, .ref 76), (1, .int (nI s)), (2, .long (lN p1)), (4, .long (lN p2))]) (fun q h => h) (dbtL f _ A2 J3 (lo := 400) (hi := 400 + (q2 + 1)) (by omega) k2.2.1 (fun v => ⟨_, A2, J3, v, rfl, rfl, ⟨ho, tbI_fr hT (fun r _ i _ hi => (k2.2.2.1 r i (by omega)).trans (k1.2.2.1 r i (by omega)))⟩, fun j a b c => by rw [upd_ne _ _ c, upd_ne _ _ b], fun r hr => (k2.1 r hr).trans (k1.1 r hr), fun r i hi => (k2.2.2.1 r i (by omega)).trans (k1.2.2.1 r i (by omega))⟩) 40 (400 + q1) (400 + q2) (by decide) (by omega) (by omega) (by omega) (by omega) hs1 hun)
            · iterate 1 (refine zv_step (bX7_doubt 60) rfl rfl trivial ?_)
              exact zv_iret (bX7_doubt 60) rfl (Or.inl rfl) (Nat.zero_le _) (Nat.zero_le _) ⟨(upd o 28 (nI s)), A, J3, _, rfl, rfl, ⟨ho, hT⟩, fun j a b c => upd_ne _ _ b, fun _ _ => rfl, fun _ _ _ => rfl⟩
        · iterate 3 (refine zv_step (bX7_doubt 60) rfl rfl trivial ?_)
          refine zv_V1 (bX7_doubt 60) rfl rfl rfl rfl rfl rfl rfl ⟨rfl, rfl, rfl⟩ ⟨by decide, by decide⟩ ⟨Nat.zero_le _, Nat.zero_le _⟩ (mCounted f o A J hh hw ho10 hs rfl) ?_
          rintro _ _ ⟨J1, rfl, rfl, hJ1⟩
          iterate 2 (refine zv_step (bX7_doubt 60) rfl rfl trivial ?_)
          refine zv_ifb (fun h41 => ?_) (fun h41 => ?_)
          · iterate 3 (refine zv_step (bX7_doubt 60) rfl rfl trivial ?_)
            refine zv_V1 (bX7_doubt 60) rfl rfl rfl rfl rfl rfl rfl ⟨rfl, rfl, rfl⟩ ⟨by decide, by decide⟩ ⟨Nat.zero_le _, Nat.zero_le _⟩ (mCounted f (upd o 28 (nI s)) A J1 hh hw ho10 hs rfl) ?_
            rintro _ _ ⟨J2, rfl, rfl, hJ2⟩
            refine zv_world (show _ = wR f (upd o 28 (nI s)) A J2 from rfl) ?_
            iterate 2 (refine zv_step (bX7_doubt 60) rfl rfl trivial ?_)
            refine zv_ift (by rw [ctW_u hJ2 hJ1]; exact h41) ?_
            iterate 1 (refine zv_step (bX7_doubt 60) rfl rfl trivial ?_)
            exact zv_iret (bX7_doubt 60) rfl (Or.inl rfl) (Nat.zero_le _) (Nat.zero_le _) ⟨(upd o 28 (nI s)), A, J2, _, rfl, rfl, ⟨ho, hT⟩, fun j a b c => upd_ne _ _ b, fun _ _ => rfl, fun _ _ _ => rfl⟩
          · iterate 1 (refine zv_step (bX7_doubt 60) rfl rfl trivial ?_)
            exact zv_iret (bX7_doubt 60) rfl (Or.inl rfl) (Nat.zero_le _) (Nat.zero_le _) ⟨(upd o 28 (nI s)), A, J1, _, rfl, rfl, ⟨ho, hT⟩, fun j a b c => upd_ne _ _ b, fun _ _ => rfl, fun _ _ _ => rfl⟩
      · iterate 1 (refine zv_step (bX7_doubt 60) rfl rfl trivial ?_)
        exact zv_iret (bX7_doubt 60) rfl (Or.inl rfl) (Nat.zero_le _) (Nat.zero_le _) ⟨o, A, J, _, rfl, rfl, ⟨ho, hT⟩, fun _ _ _ _ => rfl, fun _ _ => rfl, fun _ _ _ => rfl⟩
  · skip
    iterate 1 (refine zv_step (bX7_doubt 60) rfl rfl trivial ?_)
    refine zv_ift (by decide) ?_
    iterate 1 (refine zv_step (bX7_doubt 60) rfl rfl trivial ?_)
    exact zv_iret (bX7_doubt 60) rfl (Or.inl rfl) (Nat.zero_le _) (Nat.zero_le _) ⟨o, A, J, _, rfl, rfl, ⟨ho, hT⟩, fun _ _ _ _ => rfl, fun _ _ => rfl, fun _ _ _ => rfl⟩
end
section
/-! the same state on both sides -/
def SS (u h : Nat) (O : Nat → Int32) (P : Nat → Nat → Int32) (o : Nat → Int32) (A : Nat → Nat → Int32) : Prop := O 1 = nI u ∧ o 0 = nI u ∧ NR u P A ∧ O 9 = nI h ∧ o 10 = nI h ∧ (∀ i, i < h → P 32 i = A 8 i) ∧ O 13 = o 30 ∧ (O 13 = 1 → P 56 0 = A 20 0) ∧ kp0 A
/-- what a call leaves as it was -/
def cE (O : Nat → Int32) (P : Nat → Nat → Int32) (O' : Nat → Int32) (P' : Nat → Nat → Int32) : Prop := O' 1 = O 1 ∧ O' 9 = O 9 ∧ O' 13 = O 13 ∧ (∀ i, 2 ≤ i → i ≤ 11 → P' i = P i) ∧ P' 32 = P 32 ∧ (O 13 = 1 → P' 56 0 = P 56 0)
def mE (u : Nat) (o : Nat → Int32) (A : Nat → Nat → Int32) (o' : Nat → Int32) (A' : Nat → Nat → Int32) : Prop := o' 0 = o 0 ∧ o' 10 = o 10 ∧ o' 30 = o 30 ∧ (∀ r i, r < 5 → i < u → A' r i = A r i) ∧ A' 8 = A 8 ∧ (o 30 = 1 → A' 20 0 = A 20 0) ∧ A' 7 = A 7
theorem cE_id (O : Nat → Int32) (P : Nat → Nat → Int32) : cE O P O P := ⟨rfl, rfl, rfl, fun _ _ _ => rfl, rfl, fun _ => rfl⟩
theorem mE_id (u : Nat) (o : Nat → Int32) (A : Nat → Nat → Int32) : mE u o A o A := ⟨rfl, rfl, rfl, fun _ _ _ _ => rfl, rfl, fun _ => rfl, rfl⟩
theorem SS_fr {u h : Nat} {O O' : Nat → Int32} {P P' : Nat → Nat → Int32} {o o' : Nat → Int32} {A A' : Nat → Nat → Int32} (hu : u ≤ 120) (s : SS u h O P o A) (c : cE O P O' P') (m : mE u o A o' A') : SS u h O' P' o' A' := by
  obtain ⟨s1, s2, s3, s4, s5, s6, s7, s8, s9⟩ := s
  obtain ⟨c1, c2, c3, c4, c5, c6⟩ := c
  obtain ⟨m1', m2', m3, m4, m5, m6, m7⟩ := m
  refine ⟨c1.trans s1, m1'.trans s2, NR_fr hu s3 (fun i h1 h2 _ j _ => by rw [c4 i h1 h2]) (fun r hr j hj => m4 r j hr hj), c2.trans s4, m2'.trans s5, fun i hi => by rw [c5, m5]; exact s6 i hi, by rw [c3, m3]; exact s7, fun e => ?_, kp0_r s9 m7⟩
  rw [c3] at e
  rw [c6 e, m6 (by rw [← s7]; exact e)]
  exact s8 e
/-- NODES come to both, or go -/
theorem SS_page {u u' h : Nat} {O : Nat → Int32} {P P' : Nat → Nat → Int32} {o : Nat → Int32} {A A' : Nat → Nat → Int32} (s : SS u h O P o A) (n : NR u' P' A') (c : ∀ i, ¬ (1 < i ∧ i ≤ 13) → P' i = P i) (m : ∀ r, 6 ≤ r → A' r = A r) : SS u' h (upd O 1 (nI u')) P' (upd o 0 (nI u')) A' := by
  obtain ⟨s1, s2, s3, s4, s5, s6, s7, s8, s9⟩ := s
  exact ⟨upd_self _ _ _, upd_self _ _ _, n, s4, s5, fun i hi => by rw [c 32 (by omega), m 8 (by decide)]; exact s6 i hi, s7, fun e => by rw [c 56 (by omega), m 20 (by decide)]; exact s8 e, kp0_r s9 (m 7 (by decide))⟩
/-- THE EAR of both -/
theorem SS_ear {u h h' : Nat} {O O' : Nat → Int32} {P P' : Nat → Nat → Int32} {o o' : Nat → Int32} {A A' : Nat → Nat → Int32} (hu : u ≤ 120) (s : SS u h O P o A) (c1 : O' 1 = O 1) (c3 : O' 13 = O 13) (c4 : ∀ i, 2 ≤ i → i ≤ 11 → P' i = P i) (c5 : P' 56 = P 56) (m1 : o' 0 = o 0) (m3 : o' 30 = o 30) (m4 : ∀ r, r < 5 → A' r = A r) (m5 : A' 20 = A 20) (m6 : A' 7 = A 7) (e9 : O' 9 = nI h') (e10 : o' 10 = nI h') (e : ∀ i, i < h' → P' 32 i = A' 8 i) : SS u h' O' P' o' A' := by
  obtain ⟨s1, s2, s3, s4, s5, s6, s7, s8, s9⟩ := s
  refine ⟨c1.trans s1, m1.trans s2, NR_fr hu s3 (fun i h1 h2 _ j _ => by rw [c4 i h1 h2]) (fun r hr j hj => by rw [m4 r hr]), e9, e10, e, by rw [c3, m3]; exact s7, fun w => ?_, kp0_r s9 m6⟩
  rw [c3] at w
  rw [c5, m5]
  exact s8 w
theorem cvI_pos {x : Int32} (h : 0 ≤ x.toInt) : cvI x = x := if_neg (fun e => by
  rw [e] at h
  exact absurd h (by decide))
theorem leaf_NR {u : Nat} (hu : u < 120) {P A : Nat → Nat → Int32} (n : NR u P A) {k v sh : Int32} (g : lfG k v) : NR (u + 1) (stC 1 P u k v m1 m1 sh) (setsA A u k v m2 m2) := by
  have hv : 0 ≤ v.toInt := by
    rcases g with g | g <;> exact g.2.1
  have := NR_st (k := k) (v := v) (x := m2) (y := m2) (sh := sh) hu n (Or.inl rfl) (Or.inl rfl)
  rwa [cvI_m2, cvI_pos hv] at this
theorem isN_n {u : Nat} {x : Int32} (hu : u ≤ 120) (h : isN u x) : ∃ a, a < u ∧ x = nI a := ⟨x.toInt.toNat, by have := h.1; have := h.2; omega, by
  have h1 := h.1
  have h2 := h.2
  rw [← Int32.toInt_inj, nI_toInt (by omega)]
  omega⟩
theorem node_NR {u : Nat} (hu : u < 120) {P A : Nat → Nat → Int32} (n : NR u P A) {k x y sh : Int32} (g : ndG u k x y) : NR (u + 1) (stC 1 P u k (ndv m1 k y) x (ndy m1 k y) sh) (setsA A u k (ndv m2 k y) x (ndy m2 k y)) := by
  obtain ⟨a, ha, ex⟩ := isN_n (by omega) (show isN u x from g.2.1)
  have hy : ndy m2 k y = m2 ∨ ∃ a, a < u ∧ ndy m2 k y = nI a := by
    unfold ndy
    split
    · rename_i q
      obtain ⟨b, hb, ey⟩ := isN_n (by omega) (show isN u y from g.2.2.1 q)
      exact Or.inr ⟨b, hb, ey⟩
    · exact Or.inl rfl
  have := NR_st (k := k) (v := ndv m2 k y) (x := x) (y := ndy m2 k y) (sh := sh) hu n (Or.inr ⟨a, ha, ex⟩) hy
  have e1 : cvI (ndv m2 k y) = ndv m1 k y := by
    unfold ndv
    split
    · rename_i q
      exact cvI_pos (g.2.2.2 q).1
    · exact cvI_m2
  have e2 : cvI x = x := cvI_pos g.2.1.1
  have e3 : cvI (ndy m2 k y) = ndy m1 k y := by
    unfold ndy
    split
    · rename_i q
      exact cvI_pos (g.2.2.1 q).1
    · exact cvI_m2
  rwa [e1, e2, e3] at this
/-- the same words heard on both sides -/
theorem has_eq {g g' : Nat → Int32} {ws : List Int32} (h : hasW g ws) (h' : hasW g' ws) : ∀ i, i < ws.length → g i = g' i := fun i hi => by
  have := List.getElem?_eq_getElem hi
  rw [h i _ this, h' i _ this]
theorem kp_hb {P A : Nat → Nat → Int32} (h : kpR P A) {s : Nat} (hs : s < 8) : ∀ k, k < 10 → (hbW (P 75 s) (nI k) = 0 ↔ A 7 (10 * s + k) = 0) := fun k hk => by
  obtain ⟨m, hm, e, hb⟩ := h s hs
  rw [e, hb_bt m hm k hk, hb k hk]
/-- a NODE is said in a style with the same words -/
theorem sy_same {u : Nat} (hu : u ≤ 120) {O : Nat → Int32} {P A : Nat → Nat → Int32} (h1 : O 1 = nI u) (hT : tbI 0 u A) (hN : NR u P A) (hk : kpR P A) {s n : Nat} (hs : s < 8) (hn : n < u) : syL O P s n = wdW A s 40 (nI n) := by
  obtain ⟨k, hk9, h0⟩ := rN_kd (hT n (Nat.zero_le _) hn)
  have := tl_wd hu hT hN (kp_hb hk hs) 40 (nI n) (pt_of hT (Nat.zero_le _) hn) (hbW (P 75 s) (P 2 n)) (by rw [kpI_n (by omega) hk9 h0, (hN n hn).1, h0]; exact kp_hb hk hs k hk9)
  rw [cvI_nI (by omega)] at this
  show tlW (O 1) (P 75 s) (Int32.ofInt 0) P 41 (nI n) (hbW (P 75 s) (P 2 n)) = _
  rw [h1]
  exact this
/-- listen -/
theorem listen_ok {u h : Nat} (hu : u ≤ 120) (hh : h ≤ 20) {O O' : Nat → Int32} {P P' : Nat → Nat → Int32} {o o' : Nat → Int32} {A A' : Nat → Nat → Int32} {x y R R' : Int32} (s : SS u h O P o A) (hT : tbI 0 u A) (hk : kpR P A) (c : spV O P O' P') (m : eX o A o' A') (g : clR O P u x y O' P' R) (g' : mlR o A u x y o' A' R') : R = R' ∧ ∃ h', h' ≤ 20 ∧ SS u h' O' P' o' A' := by
  have fr : ∀ h', O' 9 = nI h' → o' 10 = nI h' → (∀ i, i < h' → P' 32 i = A' 8 i) → SS u h' O' P' o' A' := fun h' e9 e10 e => SS_ear hu s (c.1 1 (by decide)) (c.1 13 (by decide)) (fun i h1 h2 => c.2 i (by omega) (by omega) (by omega)) (c.2 56 (by decide) (by decide) (by decide)) (m.2.1 0 (by decide) (by decide)) (m.2.1 30 (by decide) (by decide)) (fun r hr => m.2.2 r (by omega) (by omega) (by omega)) (m.2.2 20 (by decide) (by decide) (by decide)) (m.2.2 7 (by decide) (by decide) (by decide)) e9 e10 e
  have same : sameE O P O' P' → sameM o A o' A' → ∃ h', h' ≤ 20 ∧ SS u h' O' P' o' A' := fun a b => ⟨h, hh, fr h (a.1.trans s.2.2.2.1) (b.1.trans s.2.2.2.2.1) (fun i hi => by rw [a.2, b.2]; exact s.2.2.2.2.2.1 i hi)⟩
  rcases g with ⟨r, q, e⟩ | ⟨sy, n, hs, hn, ex, ey, g⟩
  · rcases g' with ⟨r', _, e'⟩ | ⟨s', n', hs', hn', ex', ey', _⟩
    · exact ⟨r.trans r'.symm, same e e'⟩
    · exact absurd ⟨by rw [ex', nI_toInt (by omega)]; omega, by rw [ey', nI_toInt (by omega)]; omega, by rw [ey', nI_toInt (by omega)]; omega⟩ q
  · rcases g' with ⟨_, q, _⟩ | ⟨s', n', hs', hn', ex', ey', g'⟩
    · exact absurd ⟨by rw [ex, nI_toInt (by omega)]; omega, by rw [ey, nI_toInt (by omega)]; omega, by rw [ey, nI_toInt (by omega)]; omega⟩ q
    · have e1 : sy = s' := (nI_eq (by omega) (by omega)).mp (ex.symm.trans ex')
      have e2 : n = n' := (nI_eq (by omega) (by omega)).mp (ey.symm.trans ey')
      subst e1 e2
      rw [sy_same hu s.1 hT s.2.2.1 hk hs hn] at g
      rcases g with ⟨r, q, e⟩ | ⟨q, g⟩
      · rcases g' with ⟨r', _, e'⟩ | ⟨q', _⟩
        · exact ⟨r.trans r'.symm, same e e'⟩
        · omega
      · rcases g' with ⟨_, q', _⟩ | ⟨_, g'⟩
        · omega
        · rcases g with ⟨w, r, e⟩ | ⟨w, r, e9, hp⟩
          · rcases g' with ⟨_, r', e'⟩ | ⟨w', _⟩
            · exact ⟨r.trans r'.symm, same e e'⟩
            · omega
          · rcases g' with ⟨w', _⟩ | ⟨_, r', e10, hm⟩
            · omega
            · exact ⟨r.trans r'.symm, _, w, fr _ e9 e10 (has_eq hp hm)⟩
/-- fewest -/
theorem fewest_ok {u h : Nat} (hu : u ≤ 120) (hh : h ≤ 20) {O O' : Nat → Int32} {P P' : Nat → Nat → Int32} {o o' : Nat → Int32} {A A' : Nat → Nat → Int32} {x R R' : Int32} (s : SS u h O P o A) (hT : tbI 0 u A) (hf : fnR O A) (c : spV O P O' P') (m : fwX o A o' A') (g : cfR O P u x O' P' R) (g' : fwR A u h x o' A' R' (o' = o ∧ A' = A)) : R = R' ∧ ∃ h', h' ≤ 20 ∧ SS u h' O' P' o' A' := by
  obtain ⟨fm, hm, e0, hb⟩ := hf
  have fr : ∀ h', O' 9 = nI h' → o' 10 = nI h' → (∀ i, i < h' → P' 32 i = A' 8 i) → SS u h' O' P' o' A' := fun h' e9 e10 e => SS_ear hu s (c.1 1 (by decide)) (c.1 13 (by decide)) (fun i h1 h2 => c.2 i (by omega) (by omega) (by omega)) (c.2 56 (by decide) (by decide) (by decide)) (m.2.1 0 (by decide) (by decide) (by decide)) (m.2.1 30 (by decide) (by decide) (by decide)) (fun r hr => m.2.2 r (by omega) (by omega) (by omega)) (m.2.2 20 (by decide) (by decide) (by decide)) (m.2.2 7 (by decide) (by decide) (by decide)) e9 e10 e
  have same : sameE O P O' P' → (o' = o ∧ A' = A) → ∃ h', h' ≤ 20 ∧ SS u h' O' P' o' A' := fun a b => ⟨h, hh, fr h (a.1.trans s.2.2.2.1) (by rw [b.1]; exact s.2.2.2.2.1) (fun i hi => by rw [a.2, b.2]; exact s.2.2.2.2.2.1 i hi)⟩
  rcases g with ⟨r, q, e⟩ | ⟨n, hn, ex, g⟩
  · rcases g' with ⟨r', _, e'⟩ | ⟨n', hn', ex', _⟩
    · exact ⟨r.trans r'.symm, same e e'⟩
    · exact absurd ⟨by rw [ex', nI_toInt (by omega)]; omega, by rw [ex', nI_toInt (by omega)]; omega⟩ q
  · rcases g' with ⟨_, q, _⟩ | ⟨n', hn', ex', g'⟩
    · exact absurd ⟨by rw [ex, nI_toInt (by omega)]; omega, by rw [ex, nI_toInt (by omega)]; omega⟩ q
    · have e2 : n = n' := (nI_eq (by omega) (by omega)).mp (ex.symm.trans ex')
      subst e2
      have hp := pt_of hT (Nat.zero_le _) hn
      have rt := rt_bits hu hT s.2.2.1 hm hb 40 (nI n) hp
      rw [cvI_nI (by omega), pvI_nI _ (by omega), pvI_nI _ (by omega), ← e0] at rt
      have kb := ch_kb hu hT s.2.2.1 40 (nI n) hp
      rw [cvI_nI (by omega), pvI_nI _ (by omega)] at kb
      have kl := kbW_le (by omega) hT 40 n hn (rN_sz (hT n (Nat.zero_le _) hn)).2.1
      have sz := (rN_sz (hT n (Nat.zero_le _) hn)).2.1
      have k8 : P 9 n ≤ c8 8 ↔ kbW A 40 (nI n) ≤ 8 := by
        rw [kb]
        exact nI_leI (b := 8) (by omega) (by decide)
      rw [rt, k8] at g
      rcases g with ⟨r, q, e⟩ | ⟨q, g⟩
      · rcases g' with ⟨r', _, e'⟩ | ⟨q', _⟩
        · exact ⟨r.trans r'.symm, same e e'⟩
        · exact absurd q' q
      · rcases g' with ⟨_, q', _⟩ | ⟨_, g'⟩
        · exact absurd q q'
        · rcases g with ⟨r, w, e⟩ | ⟨w, g⟩
          · rcases g' with ⟨r', _, e'⟩ | ⟨w', _⟩
            · exact ⟨r.trans r'.symm, same e e'⟩
            · exact absurd w' w
          · rcases g' with ⟨_, w', _⟩ | ⟨_, g'⟩
            · omega
            · have f := few_same hu hT s.2.2.1 hn w (kk := O 4) g'
              have eL : spL O P n = tlW (nI u) (O 4) (Int32.ofInt 1) P 41 (nI n) (Int32.ofInt 0) := by
                show tlW (O 1) (O 4) (Int32.ofInt 1) P 41 (nI n) (Int32.ofInt 0) = _
                rw [s.1]
              rw [eL] at g
              rcases g with ⟨v, r, e⟩ | ⟨v, r, e9, hp9⟩
              · rcases f with ⟨v', _⟩ | ⟨_, r', e10, e8⟩
                · omega
                · exact ⟨r.trans r'.symm, h, hh, fr h (e.1.trans s.2.2.2.1) e10 (fun i hi => by rw [e.2, e8 i hi]; exact s.2.2.2.2.2.1 i hi)⟩
              · rcases f with ⟨_, r', e10, h8⟩ | ⟨v', _⟩
                · exact ⟨r.trans r'.symm, _, v, fr _ e9 e10 (has_eq hp9 h8)⟩
                · omega
end
section
/-! hear, hush, leaf, node, undo, walk: the same state again -/
theorem SS_lv {u u' h : Nat} {O : Nat → Int32} {P : Nat → Nat → Int32} {o : Nat → Int32} {A : Nat → Nat → Int32} (s : SS u h O P o A) (hu : u' ≤ u) : SS u' h (upd O 1 (nI u')) P (upd o 0 (nI u')) A := SS_page s (NR_le s.2.2.1 hu) (fun _ _ => rfl) (fun _ _ => rfl)
/-- hush -/
theorem hush_ok {u h : Nat} (hu : u ≤ 120) {O : Nat → Int32} {P : Nat → Nat → Int32} {o : Nat → Int32} {A : Nat → Nat → Int32} (s : SS u h O P o A) : O 9 = o 10 ∧ SS u 0 (upd O 9 (Int32.ofInt 0)) P (upd o 10 (Int32.ofInt 0)) A :=
  ⟨s.2.2.2.1.trans s.2.2.2.2.1.symm, SS_ear hu s rfl rfl (fun _ _ _ => rfl) rfl rfl rfl (fun _ _ => rfl) rfl rfl rfl rfl (fun i hi => absurd hi (Nat.not_lt_zero i))⟩
theorem hear_st {u h n : Nat} (hu : u ≤ 120) {O : Nat → Int32} {P : Nat → Nat → Int32} {o : Nat → Int32} {A : Nat → Nat → Int32} (s : SS u h O P o A) (y : Int32) : SS u (h + n) (upd O 9 (nI (h + n))) (updA P 32 (heL y n (P 32) h)) (upd o 10 (nI (h + n))) (updA A 8 (heL y n (A 8) h)) :=
  SS_ear hu s rfl rfl (fun i h1 h2 => updA_ne _ _ (by omega)) rfl rfl rfl (fun r hr => updA_ne _ _ (by omega)) rfl rfl rfl rfl (fun i hi => by
    rw [updA_self, updA_self]
    exact heL_e y n _ _ h s.2.2.2.2.2.1 i hi)
theorem stC_ne1 (P : Nat → Nat → Int32) (u : Nat) (k v x y sh : Int32) {i : Nat} (h : ¬ (1 < i ∧ i ≤ 13)) : stC 1 P u k v x y sh i = P i := stC_o (by omega)
theorem sets_ne6 (A : Nat → Nat → Int32) (u : Nat) (k v x y : Int32) {r : Nat} (h : 6 ≤ r) : setsA A u k v x y r = A r := by
  show updA _ 5 _ r = _
  rw [updA_ne _ _ (by omega), updA_ne _ _ (by omega), updA_ne _ _ (by omega), updA_ne _ _ (by omega), updA_ne _ _ (by omega), updA_ne _ _ (by omega)]
/-- leaf -/
theorem leaf_ok {u h : Nat} (hu : u < 120) {O : Nat → Int32} {P : Nat → Nat → Int32} {o : Nat → Int32} {A : Nat → Nat → Int32} (s : SS u h O P o A) {k v : Int32} (sh : Int32) (g : lfG k v) : SS (u + 1) h (upd O 1 (nI (u + 1))) (stC 1 P u k v m1 m1 sh) (upd o 0 (nI (u + 1))) (setsA A u k v m2 m2) :=
  SS_page s (leaf_NR hu s.2.2.1 g) (fun _ q => stC_ne1 _ _ _ _ _ _ _ q) (fun _ q => sets_ne6 _ _ _ _ _ _ q)
theorem node_ok {u h : Nat} (hu : u < 120) {O : Nat → Int32} {P : Nat → Nat → Int32} {o : Nat → Int32} {A : Nat → Nat → Int32} (s : SS u h O P o A) {k x y : Int32} (sh : Int32) (g : ndG u k x y) : SS (u + 1) h (upd O 1 (nI (u + 1))) (stC 1 P u k (ndv m1 k y) x (ndy m1 k y) sh) (upd o 0 (nI (u + 1))) (setsA A u k (ndv m2 k y) x (ndy m2 k y)) :=
  SS_page s (node_NR hu s.2.2.1 g) (fun _ q => stC_ne1 _ _ _ _ _ _ _ q) (fun _ q => sets_ne6 _ _ _ _ _ _ q)
theorem nd_at {u : Nat} (hu : u ≤ 120) {P A : Nat → Nat → Int32} (n : NR u P A) {x : Int32} (h : isN u x) : P 6 x.toNatClampNeg = A 4 x.toNatClampNeg := by
  obtain ⟨a, ha, e⟩ := isN_n hu h
  have : x.toNatClampNeg = a := by
    show x.toInt.toNat = a
    rw [e, nI_toInt (by omega)]
    omega
  rw [this]
  exact (n a ha).2.2.2.2.1
theorem ndS_same {u : Nat} (hu : u ≤ 120) {P A : Nat → Nat → Int32} (n : NR u P A) {k x y : Int32} (g : ndG u k x y) : ndS (P 6) k x y = ndS (A 4) k x y := by
  unfold ndS
  rw [nd_at hu n g.2.1]
  split
  · rename_i q
    rw [nd_at hu n (g.2.2.1 q)]
  · rfl
/-- undo -/
theorem undo_same {u h : Nat} {O : Nat → Int32} {P : Nat → Nat → Int32} {o : Nat → Int32} {A : Nat → Nat → Int32} (s : SS u h O P o A) : (O 13 = 1 ∧ P 56 0 = nI (u - 1)) ↔ (o 30 = 1 ∧ A 20 0 = nI (u - 1)) := by
  have e := s.2.2.2.2.2.2.1
  have f := s.2.2.2.2.2.2.2.1
  constructor
  · rintro ⟨a, b⟩
    exact ⟨by rw [← e]; exact a, by rw [← f a]; exact b⟩
  · rintro ⟨a, b⟩
    have a' : O 13 = 1 := by rw [e]; exact a
    exact ⟨a', by rw [f a']; exact b⟩
/-- walk -/
theorem walk_ok {u h : Nat} (hu : u ≤ 120) {O : Nat → Int32} {P : Nat → Nat → Int32} {o : Nat → Int32} {A : Nat → Nat → Int32} (s : SS u h O P o A) (x : Int32) : SS u h (upd (upd O 13 (Int32.ofInt 1)) 14 (Int32.ofInt 0)) (updA P 56 (upd (P 56) 0 x)) (upd (upd o 30 (Int32.ofInt 1)) 33 (Int32.ofInt 0)) (updA A 20 (upd (A 20) 0 x)) := by
  obtain ⟨s1, s2, s3, s4, s5, s6, s7, s8, s9⟩ := s
  refine ⟨s1, s2, NR_fr hu s3 (fun i h1 h2 _ j _ => by rw [updA_ne _ _ (by omega)]) (fun r hr j hj => by rw [updA_ne _ _ (by omega)]), s4, s5, s6, rfl, fun _ => ?_, kp0_r s9 rfl⟩
  rw [updA_self, updA_self, upd_self, upd_self]
end
section
/-! write, keeps, means: the same state again -/
theorem ea_of {u h : Nat} {O : Nat → Int32} {P : Nat → Nat → Int32} {o : Nat → Int32} {A : Nat → Nat → Int32} (s : SS u h O P o A) (hw : nnW h (A 8)) : eaR h P (eW A) := fun i hi => by
  rw [s.2.2.2.2.2.1 i hi]
  exact eW_of hw hi
theorem gf_of {O : Nat → Int32} {A : Nat → Nat → Int32} (h : fnR O A) : gfR (O 0) (A 6) := fun v hv => by
  obtain ⟨m, hm, e, hb⟩ := h
  rw [e, hb_bt m hm v hv, hb v hv]
theorem bt_1 (m k : Nat) : decide (bt m k = nI 1) = m.testBit k := by
  unfold bt
  cases m.testBit k <;> decide
theorem bt_0 (m k : Nat) : decide (bt m k = nI 0) = !m.testBit k := by
  unfold bt
  cases m.testBit k <;> decide
theorem sy_of {P A : Nat → Nat → Int32} (h : kpR P A) : ∀ s, s ≤ 8 → syR P s (ltW A s) := fun s hs => by
  unfold syR
  split
  · rename_i e
    intro k _
    rw [ltW_8 e, ltW_8 e]
    exact ⟨rfl, rfl⟩
  · rename_i e
    obtain ⟨m, hm, q, hb⟩ := h s (by omega)
    refine ⟨m, hm, q, fun k hk => ?_⟩
    rw [ltW_n e, ltW_n e, hb k hk]
    exact ⟨bt_1 m k, bt_0 m k⟩
/-- both tables count the same -/
theorem L_same {h : Nat} (hh : h ≤ 20) {A : Nat → Nat → Int32} {s : Nat} {Y Y1 J1 : Nat → Nat → Int64} (z : okZ Y h (eW A) (A 6) (ltW A s) Y1 (h + 1) 0) (j : okJ h A s J1) : ∀ a b, a < b → b ≤ h → lY Y1 a b = lW J1 a b := fun a b h1 h2 => by
  have eJ : ∀ i j, i < j → j ≤ h → lW J1 i j = csW (mG (eW A) (A 6) (ltW A s) (lW J1) i j) 20 := fun i k q1 q2 => (okS_l (j i k q1 q2)).1
  exact L_uq (E := eW A) (G := A 6) (lt := ltW A s) (h := h) (fun i k q1 q2 => (z.1 i k q1 q2 (Or.inl (by omega))).2.1) (fun i k q1 q2 => (L_le hh eJ (k - i) i k q1 q2 (Nat.le_refl _)).2) (b - a) a b h1 h2 (Nat.le_refl _)
theorem ct_same {h : Nat} (hh : h ≤ 20) {A : Nat → Nat → Int32} {s : Nat} {Y Y1 J1 : Nat → Nat → Int64} (z : okZ Y h (eW A) (A 6) (ltW A s) Y1 (h + 1) 0) (j : okJ h A s J1) : ctY h Y1 = ctW h J1 := by
  unfold ctY ctW
  split
  · rfl
  · exact L_same hh z j 0 h (by omega) (Nat.le_refl _)
/-- NODES, where other fields and tables may have changed -/
theorem SS_pg {u u' h : Nat} {O O' : Nat → Int32} {P P' : Nat → Nat → Int32} {o o' : Nat → Int32} {A A' : Nat → Nat → Int32} (s : SS u h O P o A) (n : NR u' P' A') (c1 : O' 1 = nI u') (c2 : O' 9 = O 9) (c3 : O' 13 = O 13) (c4 : P' 32 = P 32) (c5 : P' 56 = P 56) (m1' : o' 0 = nI u') (m2' : o' 10 = o 10) (m3 : o' 30 = o 30) (m : ∀ r, 6 ≤ r → A' r = A r) : SS u' h O' P' o' A' := by
  obtain ⟨s1, s2, s3, s4, s5, s6, s7, s8, s9⟩ := s
  exact ⟨c1, m1', n, c2.trans s4, m2'.trans s5, fun i hi => by rw [c4, m 8 (by decide)]; exact s6 i hi, by rw [c3, m3]; exact s7, fun e => by rw [c5, m 20 (by decide)]; exact s8 (by rw [← c3]; exact e), kp0_r s9 (m 7 (by decide))⟩
/-- write -/
theorem write_ok {u h : Nat} (hu : u ≤ 120) (hh : h ≤ 20) {O O' : Nat → Int32} {P P' : Nat → Nat → Int32} {o o' : Nat → Int32} {A A' : Nat → Nat → Int32} {Y : Nat → Nat → Int64} {x R R' : Int32} {z : Int64} (s : SS u h O P o A) (c : ∀ j, j ≠ 1 → j ≠ 2 → j ≠ 10 → j ≠ 11 → j ≠ 12 → O' j = O j) (m : ndY o u A o' A') (g : wrC O P Y (eW A) (A 6) (ltW A) u h x z O' P' R) (g' : wrM o A u h x z o' A' R') : R = R' ∧ ∃ u', u' ≤ 120 ∧ SS u' h O' P' o' A' := by
  have mk : ∀ u', NR u' P' A' → O' 1 = nI u' → o' 0 = nI u' → P' 32 = P 32 → P' 56 = P 56 → SS u' h O' P' o' A' := fun u' n e1 e0 e32 e56 => SS_pg s n e1 (c 9 (by decide) (by decide) (by decide) (by decide) (by decide)) (c 13 (by decide) (by decide) (by decide) (by decide) (by decide)) e32 e56 e0 (m.2.1 10 (by decide) (by decide) (by decide)) (m.2.1 30 (by decide) (by decide) (by decide)) m.2.2.1
  have same : O' 1 = nI u → o' 0 = nI u → (∀ i, ¬ (14 < i ∧ i ≤ 26) → P' i = P i) → ∃ u', u' ≤ 120 ∧ SS u' h O' P' o' A' := fun e1 e0 e => ⟨u, hu, mk u (NR_fr hu s.2.2.1 (fun i h1 h2 _ j _ => by rw [e i (by omega)]) (fun r _ j hj => m.2.2.2 r j hj)) e1 e0 (e 32 (by omega)) (e 56 (by omega))⟩
  rcases g with ⟨r, q, e1, ep⟩ | ⟨sy, Y1, hs, ex, z0, hZ, g⟩
  · rcases g' with ⟨r', _, e0⟩ | ⟨s', J1, hs', ex', z0', _⟩
    · exact ⟨r.trans r'.symm, same e1 e0 (fun i _ => by rw [ep])⟩
    · exact absurd ⟨⟨by rw [ex', nI_toInt (by omega)]; omega, by rw [ex', nI_toInt (by omega)]; omega⟩, z0'⟩ q
  · rcases g' with ⟨_, q, _⟩ | ⟨s', J1, hs', ex', z0', hJ, g'⟩
    · exact absurd ⟨⟨by rw [ex, nI_toInt (by omega)]; omega, by rw [ex, nI_toInt (by omega)]; omega⟩, z0⟩ q
    · have e1 : sy = s' := (nI_eq (by omega) (by omega)).mp (ex.symm.trans ex')
      subst e1
      have ec := ct_same hh hZ hJ
      have cl := ctW_le hJ
      unfold cap at cl
      rw [ec] at g
      rcases g with ⟨r, q, e1, ep⟩ | ⟨p, T, ez, hp, hT, g⟩
      · rcases g' with ⟨r', _, e0⟩ | ⟨p', T', ez', hp', _⟩
        · exact ⟨r.trans r'.symm, same e1 e0 (fun i _ => by rw [ep])⟩
        · exact absurd (by rw [ez']; exact (lN_ltJ (by omega) (by omega)).mpr hp') q
      · rcases g' with ⟨_, q, _⟩ | ⟨p', T', ez', hp', hT', g'⟩
        · exact absurd (by rw [ez]; exact (lN_ltJ (by omega) (by omega)).mpr hp) q
        · have e2 : p = p' := (lN_eqJ (by omega) (by omega)).mp (ez.symm.trans ez')
          subst e2
          have e3 : T = T' := RT_uq 20 0 h p T T' (RT_cg (L_same hh hZ hJ) 20 0 h p T (Nat.le_refl _) hT) hT'
          subst e3
          rcases g with ⟨r, w, e1, ep⟩ | ⟨r, w, e1, ep, P1, ep1, hl⟩
          · rcases g' with ⟨r', _, e0⟩ | ⟨_, w', _⟩
            · exact ⟨r.trans r'.symm, same e1 e0 ep⟩
            · omega
          · rcases g' with ⟨_, w', _⟩ | ⟨r', _, e0, A1, ea1, eA⟩
            · omega
            · have n1 : NR u P1 A1 := NR_fr hu s.2.2.1 (fun i h1 h2 _ j _ => by rw [ep1 i (by omega)]) (fun r _ j hj => ea1 r j (by omega))
              have n2 := (NR_ly 20 0 h p T hT u P1 A1 [] _ n1 w hl).1
              refine ⟨r.trans r'.symm, _, w, mk _ ?_ e1 e0 (ep 32 (by omega)) (ep 56 (by omega))⟩
              rw [eA]
              exact n2
end
section
/-! the law's invariant with the same state -/
theorem pg_NR {u : Nat} (hu : u ≤ 120) {P A : Nat → Nat → Int32} (n : NR u P A) (hT : tbI 0 u A) : pgB 1 u P := fun i hi => by
  obtain ⟨e0, _, e2, e3, e4, p4, p5, _⟩ := n i hi
  obtain ⟨k, z, h0, hk, h4, hz, hs, _⟩ := hT i (Nat.zero_le _) hi
  have sz : ∀ a, a < i → szq (P 6) (nI a) = szN A a := fun a ha => by
    rw [szq_nI _ (by omega)]
    show (P 6 a).toNatClampNeg = (A 4 a).toNatClampNeg
    rw [(n a (by omega)).2.2.2.2.1]
  have hz1 := (rN_sz (hT i (Nat.zero_le _) hi)).1
  rw [szN_of h4 hz] at hz1
  refine ⟨⟨k, hk, e0.trans h0⟩, p4, p5, z, e4.trans h4, hz1, hz, ?_⟩
  show 1 + szq (P 6) (P 4 i) + szq (P 6) (P 5 i) ≤ z
  rw [e2, e3]
  rcases hs with ⟨_, h2, h3, e⟩ | ⟨_, _, a, b, h2, _, ha, h3, _, hb, e⟩ | ⟨_, a, h2, _, ha, h3, e⟩
  · rw [h2, h3, cvI_m2, show szq (P 6) m1 = 0 from szq_m1 _]
    omega
  · rw [h2, h3, cvI_nI (by omega), cvI_nI (by omega), sz a ha, sz b hb]
    omega
  · rw [h2, h3, cvI_m2, cvI_nI (by omega), sz a ha, show szq (P 6) m1 = 0 from szq_m1 _]
    omega
def LI2 (O : Nat → Int32) (P : Nat → Nat → Int32) (Y : Nat → Nat → Int64) (o : Nat → Int32) (A : Nat → Nat → Int32) : Prop := LI O P Y o A ∧ ∃ u h, u ≤ 120 ∧ h ≤ 20 ∧ SS u h O P o A
theorem LI2_open {O : Nat → Int32} {P : Nat → Nat → Int32} {Y : Nat → Nat → Int64} {o : Nat → Int32} {A : Nat → Nat → Int32} (H : LI2 O P Y o A) : ∃ u h d d2, cI u h d O P Y ∧ mI u h d2 o A ∧ kpR P A ∧ fnR O A ∧ SS u h O P o A := by
  obtain ⟨⟨⟨u, l, d, hC⟩, ⟨u2, h2, d2, hM⟩, hk, hf⟩, u3, h3, b1, b2, s⟩ := H
  have c1 := hC.1
  have c2 := hC.2.2.2.1
  have k1 := hM.1
  have k2 := hM.2.2.2.2.1
  have e1 : u = u3 := (nI_eq (by omega) (by omega)).mp (hC.2.1.symm.trans s.1)
  have e2 : u2 = u3 := (nI_eq (by omega) (by omega)).mp (hM.2.1.symm.trans s.2.1)
  have e3 : l = h3 := (nI_eq (by omega) (by omega)).mp (hC.2.2.2.2.1.symm.trans s.2.2.2.1)
  have e4 : h2 = h3 := (nI_eq (by omega) (by omega)).mp (hM.2.2.2.2.2.1.symm.trans s.2.2.2.2.1)
  subst e1 e2 e3 e4
  exact ⟨_, _, d, d2, hC, hM, hk, hf, s⟩
theorem kp0_0 : kp0 A00 := fun s hs => by
  match s, hs with
  | 0, _ => decide +kernel
  | 1, _ => decide +kernel
  | 2, _ => decide +kernel
  | 3, _ => decide +kernel
  | 4, _ => decide +kernel
  | 5, _ => decide +kernel
  | 6, _ => decide +kernel
  | 7, _ => decide +kernel
  | s + 8, h => exact absurd h (by omega)
theorem LI2_0 : LI2 O00 P00 (fun _ _ => 0) o00 A00 := ⟨LI_0, 0, 0, by decide, by decide, rfl, rfl, fun n hn => absurd hn (Nat.not_lt_zero n), rfl, rfl, fun i hi => absurd hi (Nat.not_lt_zero i), rfl, fun e => absurd e (by decide), kp0_0⟩
/-- a call that leaves the same state -/
theorem LI2_fr {O O' : Nat → Int32} {P P' : Nat → Nat → Int32} {Y Y' : Nat → Nat → Int64} {o o' : Nat → Int32} {A A' : Nat → Nat → Int32} {u h : Nat} (H : LI2 O P Y o A) (hu : u ≤ 120) (hh : h ≤ 20) (s : SS u h O P o A) (c : cInv O' P' Y' ∧ cSt O P O' P') (m : mInv o' A' ∧ mSt A A') (ce : cE O P O' P') (me : mE u o A o' A') : LI2 O' P' Y' o' A' := ⟨LI_mk H.1 c m, u, h, hu, hh, SS_fr hu s ce me⟩
/-- a call that changes both alike -/
theorem LI2_mk {O O' : Nat → Int32} {P P' : Nat → Nat → Int32} {Y Y' : Nat → Nat → Int64} {o o' : Nat → Int32} {A A' : Nat → Nat → Int32} {u h d u' h' : Nat} (H : LI2 O P Y o A) (hC : cI u h d O P Y) (hu : u ≤ u') (hu' : u' ≤ 120) (hh' : h' ≤ 20) (s : SS u' h' O' P' o' A') (m : mInv o' A' ∧ mSt A A') (cs : cSt O P O' P') (hY : wyI Y') (h13 : O' 13 = O 13) (h14 : O' 14 = O 14) (h56 : P' 56 = P 56) (hs : ∀ j, 20 ≤ j → O' j = O j) : LI2 O' P' Y' o' A' := by
  obtain ⟨u2, h2, d2, hM⟩ := id m.1
  have k1 := hM.1
  have e2 : u2 = u' := (nI_eq (by omega) (by omega)).mp (hM.2.1.symm.trans s.2.1)
  subst e2
  refine ⟨LI_mk H.1 ⟨⟨u2, h', d, cI_mk hC hu hu' s.1 (pg_NR hu' s.2.2.1 hM.2.2.1) hh' s.2.2.2.1 hY h13 h14 h56 (fun t ht => ?_)⟩, cs⟩ m, u2, h', hu', hh', s⟩
  rw [hs _ (by omega)]
  exact hC.2.2.2.2.2.2.2.2.2.2 t ht
theorem keeps_SS {u h : Nat} (hu : u ≤ 120) {O : Nat → Int32} {P : Nat → Nat → Int32} {o : Nat → Int32} {A : Nat → Nat → Int32} (s : SS u h O P o A) {y k : Nat} (hk : 2 ≤ k ∧ k ≤ 9) (hk8 : k ≠ 8) (R : Nat → Int32) (on : Int32) : SS u h O (updA P 75 R) o (updA A 7 (upd (A 7) (10 * y + k) on)) := by
  obtain ⟨s1, s2, s3, s4, s5, s6, s7, s8, s9⟩ := s
  refine ⟨s1, s2, NR_fr hu s3 (fun i h1 h2 _ j _ => by rw [updA_ne _ _ (by omega)]) (fun r hr j hj => by rw [updA_ne _ _ (by omega)]), s4, s5, s6, s7, s8, fun t ht => ?_⟩
  rw [updA_self]
  have := s9 t ht
  exact ⟨by rw [upd_ne _ _ (by omega)]; exact this.1, by rw [upd_ne _ _ (by omega)]; exact this.2.1, by rw [upd_ne _ _ (by omega)]; exact this.2.2⟩
theorem means_SS {u h : Nat} (hu : u ≤ 120) {O : Nat → Int32} {P : Nat → Nat → Int32} {o : Nat → Int32} {A : Nat → Nat → Int32} (s : SS u h O P o A) (x : Int32) (R : Nat → Int32) : SS u h (upd O 0 x) P o (updA A 6 R) :=
  SS_fr hu s ⟨rfl, rfl, rfl, fun _ _ _ => rfl, rfl, fun _ => rfl⟩ ⟨rfl, rfl, rfl, fun r i hr _ => by rw [updA_ne _ _ (by omega)], rfl, fun _ => rfl, rfl⟩
end
section
/-! frames of the calls that leave the same state -/
theorem spT_W {O O' : Nat → Int32} {P P' : Nat → Nat → Int32} {l : Nat} (hl : l ≤ 20) (h9 : O 9 = nI l) (q : spT O P O' P') : spW O P O' P' := ⟨⟨l, hl, (q.1 9 (by decide)).trans h9⟩, fun j hj => q.1 j (by omega), fun i h1 h2 _ => q.2 i h1 h2⟩
theorem cE_sp {O O' : Nat → Int32} {P P' : Nat → Nat → Int32} (q : spT O P O' P') : cE O P O' P' := ⟨q.1 1 (by decide), q.1 9 (by decide), q.1 13 (by decide), fun i _ h2 => q.2 i (by omega) (by omega), q.2 32 (by decide) (by decide), fun _ => by rw [q.2 56 (by decide) (by decide)]⟩
theorem cE_13 (O : Nat → Int32) (P : Nat → Nat → Int32) (R : Nat → Int32) : cE O P O (updA P 13 R) := ⟨rfl, rfl, rfl, fun i _ h2 => updA_ne _ _ (by omega), rfl, fun _ => rfl⟩
theorem cE_ty {O O' : Nat → Int32} {P : Nat → Nat → Int32} (q : ∀ j, j ≠ 10 → j ≠ 11 → j ≠ 12 → O' j = O j) : cE O P O' P := ⟨q 1 (by decide) (by decide) (by decide), q 9 (by decide) (by decide) (by decide), q 13 (by decide) (by decide) (by decide), fun _ _ _ => rfl, rfl, fun _ => rfl⟩
theorem cE_Fr {O O' : Nat → Int32} {P P' : Nat → Nat → Int32} (q : cFr O P O' P') : cE O P O' P' := by
  obtain ⟨e, q⟩ := q
  subst e
  exact cE_ty q
theorem cFr_St {O O' : Nat → Int32} {P P' : Nat → Nat → Int32} {Y' : Nat → Nat → Int64} (q : cInv O' P' Y' ∧ cFr O P O' P') : cInv O' P' Y' ∧ cSt O P O' P' := ⟨q.1, q.2.2 0 (by decide) (by decide) (by decide), by rw [q.2.1]⟩
theorem cE_sh {O O' : Nat → Int32} {P P' : Nat → Nat → Int32} {s : Nat} (q : shW O P s O' P') : cE O P O' P' := ⟨q.1 1 (by omega), q.1 9 (by omega), q.1 13 (by omega), fun i _ h2 => q.2.1 i (by omega), q.2.1 32 (by omega), fun _ => by
  by_cases e : 56 = 60 + 2 * s
  · omega
  · rw [q.2.1 56 e]⟩
theorem cE_db {O O' : Nat → Int32} {P P' : Nat → Nat → Int32} {Y' : Nat → Nat → Int64} (q : dbC O P O' P' Y') : cE O P O' P' := ⟨q.2.1 1 (by decide) (by decide) (by decide) (by decide), q.2.1 9 (by decide) (by decide) (by decide) (by decide), q.2.1 13 (by decide) (by decide) (by decide) (by decide), fun i _ h2 => q.2.2 i (by omega), q.2.2 32 (by omega), fun _ => by rw [q.2.2 56 (by omega)]⟩
theorem cI_db {O O' : Nat → Int32} {P P' : Nat → Nat → Int32} {Y Y' : Nat → Nat → Int64} {u l d : Nat} (h : cI u l d O P Y) (q : dbC O P O' P' Y') : cInv O' P' Y' ∧ cSt O P O' P' :=
  cI_gr h ⟨q.1, ⟨u, (q.2.1 1 (by decide) (by decide) (by decide) (by decide)).trans h.2.1, Nat.le_refl _, h.1, pgB_row h.2.2.1 (fun i hi => q.2.2 i (by omega))⟩, fun j _ h2 h3 h4 h5 => q.2.1 j h2 h3 h4 h5, fun i hi => q.2.2 i (by omega)⟩
theorem cE_go {O : Nat → Int32} {P : Nat → Nat → Int32} {u d' : Nat} {N D : Nat → Int32} (q : O 13 = 1 → ∃ t, (t < u ∧ P 56 0 = nI t) ∧ rtN t d' N) : cE O P (upd O 14 (nI d')) (updA (updA P 56 N) 57 D) := ⟨rfl, rfl, rfl, fun i _ h2 => by rw [updA_ne _ _ (by omega), updA_ne _ _ (by omega)], rfl, fun e => by
  obtain ⟨t, ⟨_, h0⟩, r⟩ := q e
  rw [updA_ne _ _ (by decide), updA_self, h0]
  exact r.1⟩
theorem top_N {b : Prop} {u : Nat} {x : Int32} {R : Nat → Prop} (q : b → ∃ t, (t < u ∧ x = nI t) ∧ R t) : b → ∃ t, t < u ∧ R t := fun h => by
  obtain ⟨t, a, r⟩ := q h
  exact ⟨t, a.1, r⟩
theorem mE_q {o o' : Nat → Int32} {A A' : Nat → Nat → Int32} (u : Nat) (q : qX o A o' A') : mE u o A o' A' := ⟨q.1 0 (by decide), q.1 10 (by decide), q.1 30 (by decide), fun r i hr _ => by rw [q.2 r (by omega) (by omega)], q.2 8 (by decide) (by decide), fun _ => by rw [q.2 20 (by decide) (by decide)], q.2 7 (by decide) (by decide)⟩
theorem mE_cl {o o' : Nat → Int32} {A A' : Nat → Nat → Int32} {u : Nat} (hu : u ≤ 120) (q : clX o A o' A') : mE u o A o' A' := ⟨q.1 0 (by decide), q.1 10 (by decide), q.1 30 (by decide), fun r i hr hi => q.2.1 r i (by omega) (by omega), q.2.2 8 (by decide) (by decide), fun _ => by rw [q.2.2 20 (by decide) (by decide)], q.2.2 7 (by decide) (by decide)⟩
theorem mE_o {o o' : Nat → Int32} (A : Nat → Nat → Int32) (u : Nat) (q : ∀ j, j ≠ 16 → j ≠ 28 → o' j = o j) : mE u o A o' A := ⟨q 0 (by decide) (by decide), q 10 (by decide) (by decide), q 30 (by decide) (by decide), fun _ _ _ _ => rfl, rfl, fun _ => rfl, rfl⟩
theorem mE_sh {o o' : Nat → Int32} {A A' : Nat → Nat → Int32} (u : Nat) (q : shM o A o' A') : mE u o A o' A' := ⟨q.1 0 (by decide), q.1 10 (by decide), q.1 30 (by decide), fun r i hr _ => by rw [q.2.1 r (by omega) (by omega)], q.2.1 8 (by decide) (by decide), fun _ => by rw [q.2.1 20 (by decide) (by decide)], q.2.1 7 (by decide) (by decide)⟩
theorem mE_db {o o' : Nat → Int32} {A A' : Nat → Nat → Int32} {u : Nat} (h0 : o 0 = nI u) (q : dbM o u A o' A') : mE u o A o' A' := ⟨q.1.1.trans h0.symm, q.2.1 10 (by decide) (by decide) (by decide), q.2.1 30 (by decide) (by decide) (by decide), fun r i _ hi => q.2.2.2 r i hi, q.2.2.1 8 (by decide), fun _ => by rw [q.2.2.1 20 (by decide)], q.2.2.1 7 (by decide)⟩
theorem mI_db {o o' : Nat → Int32} {A A' : Nat → Nat → Int32} {u h d : Nat} (H : mI u h d o A) (q : dbM o u A o' A') : mInv o' A' ∧ mSt A A' := mI_y H ⟨⟨u, Nat.le_refl _, H.1, q.1.1, q.1.2⟩, q.2.1, q.2.2.1, q.2.2.2⟩
theorem mE_go {o : Nat → Int32} {A : Nat → Nat → Int32} {u d' : Nat} {N D : Nat → Int32} (q : o 30 = 1 → ∃ t, (t < u ∧ A 20 0 = nI t) ∧ rtM A t d' N) : mE u o A (upd o 33 (nI d')) (updA (updA A 20 N) 21 D) := ⟨rfl, rfl, rfl, fun r i hr _ => by rw [updA_ne _ _ (by omega), updA_ne _ _ (by omega)], rfl, fun e => by
  obtain ⟨t, ⟨_, h0⟩, r⟩ := q e
  rw [updA_ne _ _ (by decide), updA_self, h0]
  exact r.1, rfl⟩
end
section
/-! the law's invariant after each call that changes both -/
theorem sets_lt (A : Nat → Nat → Int32) {u i : Nat} (k v x y : Int32) (r : Nat) (h : i < u) : setsA A u k v x y r i = A r i := by
  unfold setsA updA
  have e : i ≠ u := by omega
  by_cases h5 : r = 5
  · rw [if_pos h5, upd_ne _ _ e, h5]
  · rw [if_neg h5]
    by_cases h4 : r = 4
    · rw [if_pos h4, upd_ne _ _ e, h4]
    · rw [if_neg h4]
      by_cases h3 : r = 3
      · rw [if_pos h3, upd_ne _ _ e, h3]
      · rw [if_neg h3]
        by_cases h2 : r = 2
        · rw [if_pos h2, upd_ne _ _ e, h2]
        · rw [if_neg h2]
          by_cases h1 : r = 1
          · rw [if_pos h1, upd_ne _ _ e, h1]
          · rw [if_neg h1]
            by_cases h0 : r = 0
            · rw [if_pos h0, upd_ne _ _ e, h0]
            · rw [if_neg h0]
theorem page_LI {O : Nat → Int32} {P P' : Nat → Nat → Int32} {Y : Nat → Nat → Int64} {o : Nat → Int32} {A : Nat → Nat → Int32} {u h d d2 : Nat} (H : LI2 O P Y o A) (hC : cI u h d O P Y) (hM : mI u h d2 o A) (hu : u < 120) {k v x y : Int32} (qT : tbI 0 (u + 1) (setsA A u k v x y)) (s : SS (u + 1) h (upd O 1 (nI (u + 1))) P' (upd o 0 (nI (u + 1))) (setsA A u k v x y)) (e : ∀ i, ¬ (1 < i ∧ i ≤ 13) → P' i = P i) : LI2 (upd O 1 (nI (u + 1))) P' Y (upd o 0 (nI (u + 1))) (setsA A u k v x y) :=
  LI2_mk H hC (Nat.le_succ u) hu hC.2.2.2.1 s (mI_nd hM ⟨Nat.le_succ u, hu, qT, fun r hr => sets_ne6 _ _ _ _ _ _ hr, fun r i hi => sets_lt _ _ _ _ _ r hi⟩) ⟨rfl, e 75 (by omega)⟩ hC.2.2.2.2.2.1 rfl rfl (e 56 (by omega)) (fun j hj => upd_ne _ _ (by omega))
theorem leaf_LI {O : Nat → Int32} {P : Nat → Nat → Int32} {Y : Nat → Nat → Int64} {o : Nat → Int32} {A : Nat → Nat → Int32} {u h d d2 : Nat} (H : LI2 O P Y o A) (hC : cI u h d O P Y) (hM : mI u h d2 o A) (s : SS u h O P o A) {k v sh : Int32} (q : lfG k v ∧ u < 120) (qT : tbI 0 (u + 1) (setsA A u k v m2 m2)) : LI2 (upd O 1 (nI (u + 1))) (stC 1 P u k v m1 m1 sh) Y (upd o 0 (nI (u + 1))) (setsA A u k v m2 m2) :=
  page_LI H hC hM q.2 qT (leaf_ok q.2 s sh q.1) (fun _ w => stC_ne1 _ _ _ _ _ _ _ w)
theorem node_LI {O : Nat → Int32} {P : Nat → Nat → Int32} {Y : Nat → Nat → Int64} {o : Nat → Int32} {A : Nat → Nat → Int32} {u h d d2 : Nat} (H : LI2 O P Y o A) (hC : cI u h d O P Y) (hM : mI u h d2 o A) (s : SS u h O P o A) {k x y sh : Int32} (g : ndG u k x y) (hu : u < 120) (qT : tbI 0 (u + 1) (setsA A u k (ndv m2 k y) x (ndy m2 k y))) : LI2 (upd O 1 (nI (u + 1))) (stC 1 P u k (ndv m1 k y) x (ndy m1 k y) sh) Y (upd o 0 (nI (u + 1))) (setsA A u k (ndv m2 k y) x (ndy m2 k y)) :=
  page_LI H hC hM hu qT (node_ok hu s sh g) (fun _ w => stC_ne1 _ _ _ _ _ _ _ w)
theorem undo_LI {O : Nat → Int32} {P : Nat → Nat → Int32} {Y : Nat → Nat → Int64} {o : Nat → Int32} {A : Nat → Nat → Int32} {u h d d2 : Nat} (H : LI2 O P Y o A) (hC : cI u h d O P Y) (hM : mI u h d2 o A) (s : SS u h O P o A) (q : u ≠ 0 ∧ ¬ (O 13 = 1 ∧ P 56 0 = nI (u - 1))) (q' : u ≠ 0 ∧ ¬ (o 30 = 1 ∧ A 20 0 = nI (u - 1))) : LI2 (upd O 1 (nI (u - 1))) P Y (upd o 0 (nI (u - 1))) A :=
  ⟨LI_mk H.1 (cI_un hC (by have := q.1; omega) (fun a b => q.2 ⟨a, b⟩)) (mI_un hM (by have := q.1; omega) (fun a b => q'.2 ⟨a, b⟩)), u - 1, h, by have := hC.1; omega, hC.2.2.2.1, SS_lv s (by omega)⟩
theorem hush_LI {O : Nat → Int32} {P : Nat → Nat → Int32} {Y : Nat → Nat → Int64} {o : Nat → Int32} {A : Nat → Nat → Int32} {u h d d2 : Nat} (H : LI2 O P Y o A) (hC : cI u h d O P Y) (hM : mI u h d2 o A) (s : SS u h O P o A) : LI2 (upd O 9 (Int32.ofInt 0)) P Y (upd o 10 (Int32.ofInt 0)) A :=
  ⟨LI_mk H.1 (cI_hr (l' := 0) hC (by decide) (fun _ _ => rfl)) (mI_hu hM), u, 0, hC.1, by decide, (hush_ok hC.1 s).2⟩
theorem walk_LI {O : Nat → Int32} {P : Nat → Nat → Int32} {Y : Nat → Nat → Int64} {o : Nat → Int32} {A : Nat → Nat → Int32} {u h d d2 : Nat} (H : LI2 O P Y o A) (hC : cI u h d O P Y) (hM : mI u h d2 o A) (s : SS u h O P o A) {x : Int32} (q : isN u x) : LI2 (upd (upd O 13 (Int32.ofInt 1)) 14 (Int32.ofInt 0)) (updA P 56 (upd (P 56) 0 x)) Y (upd (upd o 30 (Int32.ofInt 1)) 33 (Int32.ofInt 0)) (updA A 20 (upd (A 20) 0 x)) := by
  obtain ⟨n, hn, e⟩ := isN_n hC.1 q
  subst e
  exact ⟨LI_mk H.1 (cI_wk hC hn) (mI_wk hM hn), u, h, hC.1, hC.2.2.2.1, walk_ok hC.1 s _⟩
theorem spV_W {O O' : Nat → Int32} {P P' : Nat → Nat → Int32} {l : Nat} (hl : l ≤ 20) (h9 : O' 9 = nI l) (q : spV O P O' P') : spW O P O' P' := ⟨⟨l, hl, h9⟩, q.1, q.2⟩
theorem listen_LI {O O' : Nat → Int32} {P P' : Nat → Nat → Int32} {Y : Nat → Nat → Int64} {o o' : Nat → Int32} {A A' : Nat → Nat → Int32} {u h d d2 : Nat} {x y R R' : Int32} (H : LI2 O P Y o A) (hC : cI u h d O P Y) (hM : mI u h d2 o A) (s : SS u h O P o A) (hk : kpR P A) (c : spV O P O' P') (m : eX o A o' A') (g : clR O P u x y O' P' R) (g' : mlR o A u x y o' A' R') : R = R' ∧ LI2 O' P' Y o' A' := by
  obtain ⟨e, h', hh', s'⟩ := listen_ok hC.1 hC.2.2.2.1 s hM.2.2.1 hk c m g g'
  exact ⟨e, LI_mk H.1 (cI_sp hC (spV_W hh' s'.2.2.2.1 c)) (mI_e hM m), u, h', hC.1, hh', s'⟩
theorem fewest_LI {O O' : Nat → Int32} {P P' : Nat → Nat → Int32} {Y : Nat → Nat → Int64} {o o' : Nat → Int32} {A A' : Nat → Nat → Int32} {u h d d2 : Nat} {x R R' : Int32} (H : LI2 O P Y o A) (hC : cI u h d O P Y) (hM : mI u h d2 o A) (s : SS u h O P o A) (hf : fnR O A) (c : spV O P O' P') (m : fwX o A o' A') (g : cfR O P u x O' P' R) (g' : fwR A u h x o' A' R' (o' = o ∧ A' = A)) : R = R' ∧ LI2 O' P' Y o' A' := by
  obtain ⟨e, h', hh', s'⟩ := fewest_ok hC.1 hC.2.2.2.1 s hM.2.2.1 hf c m g g'
  exact ⟨e, LI_mk H.1 (cI_sp hC (spV_W hh' s'.2.2.2.1 c)) (mI_f hM m), u, h', hC.1, hh', s'⟩
theorem wrC_P {O O' : Nat → Int32} {P P' : Nat → Nat → Int32} {Y : Nat → Nat → Int64} {E : Nat → Nat} {G : Nat → Int32} {lt : Nat → Nat → Nat → Bool} {u n : Nat} {x R : Int32} {z : Int64} (g : wrC O P Y E G lt u n x z O' P' R) : ∀ i, 26 < i → P' i = P i := fun i hi => by
  rcases g with ⟨_, _, _, e⟩ | ⟨_, _, _, _, _, _, ⟨_, _, _, e⟩ | ⟨_, _, _, _, _, ⟨_, _, _, e⟩ | ⟨_, _, _, e, _⟩⟩⟩
  · rw [e]
  · rw [e]
  · exact e i (by omega)
  · exact e i (by omega)
theorem write_LI {O O' : Nat → Int32} {P P' : Nat → Nat → Int32} {Y Y' : Nat → Nat → Int64} {o o' : Nat → Int32} {A A' : Nat → Nat → Int32} {u h d d2 : Nat} {x R R' : Int32} {z : Int64} (H : LI2 O P Y o A) (hC : cI u h d O P Y) (hM : mI u h d2 o A) (s : SS u h O P o A) (hY : wyI Y → wyI Y') (c : ∀ j, j ≠ 1 → j ≠ 2 → j ≠ 10 → j ≠ 11 → j ≠ 12 → O' j = O j) (m : ndY o u A o' A') (g : wrC O P Y (eW A) (A 6) (ltW A) u h x z O' P' R) (g' : wrM o A u h x z o' A' R') : R = R' ∧ LI2 O' P' Y' o' A' := by
  obtain ⟨e, u', hu', s'⟩ := write_ok hC.1 hC.2.2.2.1 s c m g g'
  have f := fun (j : Nat) (w : 13 ≤ j ∨ j = 0) => c j (by omega) (by omega) (by omega) (by omega) (by omega)
  obtain ⟨u2, w1, w2, w3, w4⟩ := id m.1
  have e2 : u2 = u' := (nI_eq (by omega) (by omega)).mp (w3.symm.trans s'.2.1)
  subst e2
  exact ⟨e, LI2_mk H hC w1 w2 hC.2.2.2.1 s' (mI_y hM m) ⟨f 0 (Or.inr rfl), wrC_P g 75 (by decide)⟩ (hY hC.2.2.2.2.2.1) (f 13 (by omega)) (f 14 (by omega)) (wrC_P g 56 (by decide)) (fun j hj => f j (by omega))⟩
theorem heL_nn (y : Int32) : ∀ (k : Nat) (g : Nat → Int32) (l : Nat), nnW l g → nnW (l + k) (heL y k g l)
  | 0, _, _, h => h
  | k + 1, g, l, h => by
    have := heL_nn y k (upd g l (dgV y k)) (l + 1) (fun i hi => by
      by_cases e : i = l
      · subst e
        rw [upd_self]
        exact (dgV_31 y k).2
      · rw [upd_ne _ _ e]
        exact h i (by omega))
    rw [show l + 1 + k = l + (k + 1) by omega] at this
    exact this
theorem hear_LI {O : Nat → Int32} {P : Nat → Nat → Int32} {Y : Nat → Nat → Int64} {o : Nat → Int32} {A : Nat → Nat → Int32} {u h d d2 n : Nat} (H : LI2 O P Y o A) (hC : cI u h d O P Y) (hM : mI u h d2 o A) (s : SS u h O P o A) (y : Int32) (hn : h + n ≤ 20) : LI2 (upd O 9 (nI (h + n))) (updA P 32 (heL y n (P 32) h)) Y (upd o 10 (nI (h + n))) (updA A 8 (heL y n (A 8) h)) :=
  ⟨LI_mk H.1 (cI_hr hC hn (fun i hi => updA_ne _ _ hi)) (mI_hr hM hn (heL_nn y n _ h hM.2.2.2.2.2.2.1)), u, h + n, hC.1, hn, hear_st hC.1 s y⟩
end
section
theorem isN_nI {u n : Nat} (hu : u ≤ 120) (hn : n < u) : isN u (nI n) := by
  unfold isN
  rw [nI_toInt (by omega)]
  omega
end
section
noncomputable def eN (A : Nat → Nat → Int32) : Nat → Int32 → Int32 → Nat
  | 0, _, _ => 0
  | z + 1, x, y => if x < 0 then 0 else (if A 0 (nC x) = A 0 (nC y) then eN A z (A 2 (nC x)) (A 2 (nC y)) + eN A z (A 3 (nC x)) (A 3 (nC y)) else 1)
end
section
/-- what a NODE of KIND k is that says the words a .. b, PLACE q among those of its KIND: its letter or NUMBER too -/
def Gk (E : Nat → Nat) (L : Nat → Nat → Nat) (A : Nat → Nat → Int32) (R : Nat → Nat → Nat → Nat → Prop) (k a b q n : Nat) : Prop :=
  (k = 0 ∧ A 1 n = nI (E a) ∧ A 2 n = m2 ∧ A 3 n = m2) ∨ (k = 1 ∧ A 1 n = nI (nvN E (b - a) a 0) ∧ A 2 n = m2 ∧ A 3 n = m2 ∧ dgN (A 1 n) = b - a) ∨
  (k = 7 ∧ ∃ x, 0 ≤ x ∧ x < n ∧ A 2 n = nI x ∧ A 3 n = m2 ∧ R (a + 1) b q x) ∨
  (k = 8 ∧ ∃ x, 0 ≤ x ∧ x < n ∧ A 2 n = nI x ∧ A 3 n = m2 ∧ R (a + 1) (b - 1) q x) ∨
  (k = 9 ∧ A 1 n = nI (E a) ∧ ∃ x, 0 ≤ x ∧ x < n ∧ A 2 n = nI x ∧ A 3 n = m2 ∧ R (a + 2) b q x) ∨
  (2 ≤ k ∧ k ≤ 6 ∧ ∃ c r x y, a + 1 + c + 1 < b ∧ E (a + 1 + c) = 18 + k ∧ q = pfS E L k a b c + r ∧ r < tmW (L a (a + 1 + c)) (L (a + 1 + c + 1) b) ∧ 0 ≤ x ∧ x < n ∧ 0 ≤ y ∧ y < n ∧ A 2 n = nI x ∧ A 3 n = nI y ∧ R a (a + 1 + c) (r / L (a + 1 + c + 1) b) x ∧ R (a + 1 + c + 1) b (r % L (a + 1 + c + 1) b) y)
/-- NODE n is READING p of the words i .. j -/
def Rg (E : Nat → Nat) (M : Nat → Nat → Nat → Nat) (L : Nat → Nat → Nat) (A : Nat → Nat → Int32) : Nat → Nat → Nat → Nat → Nat → Prop
  | 0, _, _, _, _ => False
  | f + 1, i, j, p, n => ∃ c q, c < 20 ∧ p = sW (M i j) c + q ∧ q < M i j c ∧ A 0 n = nI (c / 2) ∧ Gk E L A (Rg E M L A f) (c / 2) (i + c % 2) (j - c % 2) q n
theorem Gk_7 {E : Nat → Nat} {L : Nat → Nat → Nat} {A : Nat → Nat → Int32} {R : Nat → Nat → Nat → Nat → Prop} {k a b q n : Nat} (h : Gk E L A R k a b q n) (e : k = 7) : ∃ x, 0 ≤ x ∧ x < n ∧ A 2 n = nI x ∧ A 3 n = m2 ∧ R (a + 1) (b) q x := by
  rcases h with ⟨h, _⟩ | ⟨h, _⟩ | ⟨h, r⟩ | ⟨h, r⟩ | ⟨h, r1, r⟩ | ⟨h, h6, _⟩ <;> first | exact r | omega
theorem Gk_8 {E : Nat → Nat} {L : Nat → Nat → Nat} {A : Nat → Nat → Int32} {R : Nat → Nat → Nat → Nat → Prop} {k a b q n : Nat} (h : Gk E L A R k a b q n) (e : k = 8) : ∃ x, 0 ≤ x ∧ x < n ∧ A 2 n = nI x ∧ A 3 n = m2 ∧ R (a + 1) (b - 1) q x := by
  rcases h with ⟨h, _⟩ | ⟨h, _⟩ | ⟨h, r⟩ | ⟨h, r⟩ | ⟨h, r1, r⟩ | ⟨h, h6, _⟩ <;> first | exact r | omega
theorem Gk_9 {E : Nat → Nat} {L : Nat → Nat → Nat} {A : Nat → Nat → Int32} {R : Nat → Nat → Nat → Nat → Prop} {k a b q n : Nat} (h : Gk E L A R k a b q n) (e : k = 9) : ∃ x, 0 ≤ x ∧ x < n ∧ A 2 n = nI x ∧ A 3 n = m2 ∧ R (a + 2) (b) q x := by
  rcases h with ⟨h, _⟩ | ⟨h, _⟩ | ⟨h, r⟩ | ⟨h, r⟩ | ⟨h, r1, r⟩ | ⟨h, h6, _⟩ <;> first | exact r | omega
theorem Gk_9v {E : Nat → Nat} {L : Nat → Nat → Nat} {A : Nat → Nat → Int32} {R : Nat → Nat → Nat → Nat → Prop} {k a b q n : Nat} (h : Gk E L A R k a b q n) (e : k = 9) : A 1 n = nI (E a) := by
  rcases h with ⟨h, _⟩ | ⟨h, _⟩ | ⟨h, r⟩ | ⟨h, r⟩ | ⟨h, r1, r⟩ | ⟨h, h6, _⟩ <;> first | exact r1 | omega
theorem Gk_0v {E : Nat → Nat} {L : Nat → Nat → Nat} {A : Nat → Nat → Int32} {R : Nat → Nat → Nat → Nat → Prop} {k a b q n : Nat} (h : Gk E L A R k a b q n) (e : k = 0) : A 1 n = nI (E a) := by
  rcases h with ⟨h, r1, _⟩ | ⟨h, _⟩ | ⟨h, r⟩ | ⟨h, r⟩ | ⟨h, _, r⟩ | ⟨h, h6, _⟩ <;> first | exact r1 | omega
theorem Gk_1v {E : Nat → Nat} {L : Nat → Nat → Nat} {A : Nat → Nat → Int32} {R : Nat → Nat → Nat → Nat → Prop} {k a b q n : Nat} (h : Gk E L A R k a b q n) (e : k = 1) : A 1 n = nI (nvN E (b - a) a 0) := by
  rcases h with ⟨h, _⟩ | ⟨h, r1, _⟩ | ⟨h, r⟩ | ⟨h, r⟩ | ⟨h, _, r⟩ | ⟨h, h6, _⟩ <;> first | exact r1 | omega
theorem Gk_0 {E : Nat → Nat} {L : Nat → Nat → Nat} {A : Nat → Nat → Int32} {R : Nat → Nat → Nat → Nat → Prop} {k a b q n : Nat} (h : Gk E L A R k a b q n) (e : k < 2) : A 2 n = m2 ∧ A 3 n = m2 ∧ (k = 1 → dgN (A 1 n) = b - a) := by
  rcases h with ⟨h, _, h2, h3⟩ | ⟨h, _, h2, h3, h4⟩ | ⟨h, r⟩ | ⟨h, r⟩ | ⟨h, r⟩ | ⟨h, h6, _⟩
  · exact ⟨h2, h3, fun e => absurd e (by omega)⟩
  · exact ⟨h2, h3, fun _ => h4⟩
  · omega
  · omega
  · omega
  · omega
theorem Gk_P {E : Nat → Nat} {L : Nat → Nat → Nat} {A : Nat → Nat → Int32} {R : Nat → Nat → Nat → Nat → Prop} {k a b q n : Nat} (h : Gk E L A R k a b q n) (k2 : 2 ≤ k) (k6 : k ≤ 6) : ∃ c r x y, a + 1 + c + 1 < b ∧ E (a + 1 + c) = 18 + k ∧ q = pfS E L k a b c + r ∧ r < tmW (L a (a + 1 + c)) (L (a + 1 + c + 1) b) ∧ 0 ≤ x ∧ x < n ∧ 0 ≤ y ∧ y < n ∧ A 2 n = nI x ∧ A 3 n = nI y ∧ R a (a + 1 + c) (r / L (a + 1 + c + 1) b) x ∧ R (a + 1 + c + 1) b (r % L (a + 1 + c + 1) b) y := by
  rcases h with ⟨h, _⟩ | ⟨h, _⟩ | ⟨h, _⟩ | ⟨h, _⟩ | ⟨h, _⟩ | ⟨_, _, r⟩
  · omega
  · omega
  · omega
  · omega
  · omega
  · exact r
theorem Rg_cnt {E : Nat → Nat} {G : Nat → Int32} {lt : Nat → Nat → Bool} {L : Nat → Nat → Nat} {A : Nat → Nat → Int32} : ∀ (f i j p n : Nat), n < 450 → Rg E (mG E G lt L) L A f i j p n → spn (gB E) i j = spn (gC E) i j ∧ spn (gO E) i j = bwW A f (nI n) := by
  intro f
  induction f with
  | zero => exact fun i j p n _ h => h.elim
  | succ f ih =>
    rintro i j p n hn ⟨c, q, hc, hp, hq, h0, hk⟩
    obtain ⟨hw, _, hbr⟩ := mG_pos hq
    generalize ha : i + c % 2 = a at hw hk
    generalize hb : j - c % 2 = b at hw hk
    generalize hk9 : c / 2 = k at hw hk h0
    have hk10 : k < 10 := by omega
    obtain ⟨hab, w0, w1, w7, w8, w9⟩ := wi_pos hw
    have hown := ownW_c k h0
    have core : spn (gB E) a b = spn (gC E) a b ∧ spn (gO E) a b = bwW A (f + 1) (nI n) := by
      rw [bwW_nI hn]
      rcases (show k = 0 ∨ k = 1 ∨ (2 ≤ k ∧ k ≤ 6) ∨ k = 7 ∨ k = 8 ∨ k = 9 by omega) with e | e | ⟨k2, k6⟩ | e | e | e
      · obtain ⟨h2, h3, _⟩ := Gk_0 hk (by omega)
        obtain ⟨d1, d2, _⟩ := w0 e
        obtain ⟨b1, b2, b3⟩ := bal_o (E := E) (i := a) (j := b) (fun x h1 h2 => by rw [show x = a by omega]; omega) (by omega)
        rw [h2, h3, bwW_m2, hown.1 e]
        omega
      · obtain ⟨h2, h3, h4⟩ := Gk_0 hk (by omega)
        have hd := isNumB_at (w1 e).1
        obtain ⟨b1, b2, b3⟩ := bal_o (E := E) (i := a) (j := b) (fun x h1 h2 => by have := hd.2.2 x h1 h2; omega) (by omega)
        rw [h2, h3, bwW_m2, hown.2.1 e, h4 e]
        omega
      · obtain ⟨m, r, x, y, hm, hE, _, _, x1, x2, y1, y2, h2, h3, rx, ry⟩ := Gk_P hk k2 k6
        obtain ⟨i1, i2⟩ := ih _ _ _ x (by omega) rx
        obtain ⟨j1, j2⟩ := ih _ _ _ y (by omega) ry
        obtain ⟨g1, g2, g3⟩ := g_o (E := E) (x := a + 1 + m) (by omega)
        rw [h2, h3, ownW_2 k2 k6 h0, spn_split (gB E) (show a ≤ a + 1 + m by omega) (show a + 1 + m ≤ b by omega), spn_split (gC E) (show a ≤ a + 1 + m by omega) (show a + 1 + m ≤ b by omega), spn_split (gO E) (show a ≤ a + 1 + m by omega) (show a + 1 + m ≤ b by omega), spn_cons (gB E) (show a + 1 + m < b by omega), spn_cons (gC E) (show a + 1 + m < b by omega), spn_cons (gO E) (show a + 1 + m < b by omega)]
        omega
      · obtain ⟨x, x1, x2, h2, h3, rx⟩ := Gk_7 hk e
        obtain ⟨i1, i2⟩ := ih _ _ _ x (by omega) rx
        obtain ⟨g1, g2, g3⟩ := g_o (E := E) (x := a) (by have := (w7 e).1; omega)
        rw [h2, h3, bwW_m2, hown.2.2.1 e, spn_cons (gB E) hab, spn_cons (gC E) hab, spn_cons (gO E) hab]
        omega
      · obtain ⟨x, x1, x2, h2, h3, rx⟩ := Gk_8 hk e
        obtain ⟨i1, i2⟩ := ih _ _ _ x (by omega) rx
        obtain ⟨e1, e2, e3⟩ := w8 e
        obtain ⟨g1, g2, g3⟩ := g_o (E := E) (x := a) (by omega)
        obtain ⟨g4, g5, g6⟩ := g_o (E := E) (x := b - 1) (by omega)
        rw [h2, h3, bwW_m2, hown.2.2.2.1 e, spn_cons (gB E) hab, spn_cons (gC E) hab, spn_cons (gO E) hab, spn_snoc (gB E) (show a + 1 < b by omega), spn_snoc (gC E) (show a + 1 < b by omega), spn_snoc (gO E) (show a + 1 < b by omega)]
        omega
      · obtain ⟨x, x1, x2, h2, h3, rx⟩ := Gk_9 hk e
        obtain ⟨i1, i2⟩ := ih _ _ _ x (by omega) rx
        obtain ⟨e1, e2, e3⟩ := w9 e
        obtain ⟨g1, g2, g3⟩ := g_o (E := E) (x := a) (by omega)
        obtain ⟨g4, g5, g6⟩ := g_o (E := E) (x := a + 1) (by omega)
        rw [h2, h3, bwW_m2, hown.2.2.2.2 e, spn_cons (gB E) hab, spn_cons (gC E) hab, spn_cons (gO E) hab, spn_cons (gB E) (show a + 1 < b by omega), spn_cons (gC E) (show a + 1 < b by omega), spn_cons (gO E) (show a + 1 < b by omega)]
        rw [show a + 1 + 1 = a + 2 by omega]
        omega
    rcases (show c % 2 = 0 ∨ c % 2 = 1 by omega) with e | e
    · rw [e] at ha hb
      obtain rfl : i = a := by omega
      obtain rfl : j = b := by omega
      exact core
    · rw [e] at ha hb
      obtain ⟨e1, e2⟩ := hbr.resolve_left (by omega)
      obtain ⟨g1, g2, g3⟩ := g_b e1
      obtain ⟨g4, g5, g6⟩ := g_c e2
      rw [spn_cons (gB E) (show i < j by omega), spn_cons (gC E) (show i < j by omega), spn_cons (gO E) (show i < j by omega), spn_snoc (gB E) (show i + 1 < j by omega), spn_snoc (gC E) (show i + 1 < j by omega), spn_snoc (gO E) (show i + 1 < j by omega), ha, hb]
      rw [hb] at g4 g5 g6
      omega
theorem Rg_inj {E : Nat → Nat} {G : Nat → Int32} {lt : Nat → Nat → Bool} {L : Nat → Nat → Nat} {A : Nat → Nat → Int32} : ∀ (f i j p p' n n' z : Nat), n < 450 → n' < 450 → Rg E (mG E G lt L) L A f i j p n → Rg E (mG E G lt L) L A f i j p' n' → alk A z (nI n) (nI n') → p = p' := by
  intro f
  induction f with
  | zero => exact fun i j p p' n n' z _ _ h => h.elim
  | succ f ih =>
    rintro i j p p' n n' z hn hn' ⟨c, q, hc, hp, hq, h0, hk⟩ ⟨c', q', hc', hp', hq', h0', hk'⟩ hal
    cases z with
    | zero => exact absurd hal.1.symm (m2_nI hn)
    | succ z =>
      obtain ⟨a0, a1, a4, al2, al3⟩ := (alk_nn hn hn').mp hal
      have ek : c / 2 = c' / 2 := (nI_eq (by omega) (by omega)).mp (h0.symm.trans (a0.trans h0'))
      obtain ⟨hw, _, hbr⟩ := mG_pos hq
      obtain ⟨hw', _, hbr'⟩ := mG_pos hq'
      suffices hs : c % 2 = c' % 2 ∧ q = q' by
        have : c = c' := by omega
        subst this
        omega
      rw [← ek] at hw' hk'
      generalize hk9 : c / 2 = k at hw hk hw' hk'
      have hk10 : k < 10 := by omega
      obtain ⟨hab, w0, w1, w7, w8, w9⟩ := wi_pos hw
      obtain ⟨hab', w0', w1', w7', w8', w9'⟩ := wi_pos hw'
      have par : ¬ (2 ≤ k ∧ k ≤ 6) → c % 2 = c' % 2 := by
        intro hnp
        have e1 : c % 2 = 0 → E i ≠ 29 := fun e => by
          rw [e] at w0 w1 w7 w8 w9
          rcases (show k = 0 ∨ k = 1 ∨ k = 7 ∨ k = 8 ∨ k = 9 by omega) with h | h | h | h | h
          · have := (w0 h).2.1; rw [Nat.add_zero] at this; omega
          · rw [e] at hab
            have := (isNumB_at (w1 h).1).2.2 (i + 0) (Nat.le_refl _) hab; rw [Nat.add_zero] at this; omega
          · have := (w7 h).1; rw [Nat.add_zero] at this; omega
          · have := (w8 h).1; rw [Nat.add_zero] at this; omega
          · have := (w9 h).1; rw [Nat.add_zero] at this; omega
        have e2 : c' % 2 = 0 → E i ≠ 29 := fun e => by
          rw [e] at w0' w1' w7' w8' w9'
          rcases (show k = 0 ∨ k = 1 ∨ k = 7 ∨ k = 8 ∨ k = 9 by omega) with h | h | h | h | h
          · have := (w0' h).2.1; rw [Nat.add_zero] at this; omega
          · rw [e] at hab'
            have := (isNumB_at (w1' h).1).2.2 (i + 0) (Nat.le_refl _) hab'; rw [Nat.add_zero] at this; omega
          · have := (w7' h).1; rw [Nat.add_zero] at this; omega
          · have := (w8' h).1; rw [Nat.add_zero] at this; omega
          · have := (w9' h).1; rw [Nat.add_zero] at this; omega
        rcases (show c % 2 = 0 ∨ c % 2 = 1 by omega) with h | h <;> rcases (show c' % 2 = 0 ∨ c' % 2 = 1 by omega) with h' | h'
        · omega
        · exact absurd (hbr'.resolve_left (by omega)).1 (e1 h)
        · exact absurd (hbr.resolve_left (by omega)).1 (e2 h')
        · omega
      rcases (show k = 0 ∨ k = 1 ∨ (2 ≤ k ∧ k ≤ 6) ∨ k = 7 ∨ k = 8 ∨ k = 9 by omega) with e | e | ⟨k2, k6⟩ | e | e | e
      · exact ⟨par (by omega), by have := (w0 e).2.2; have := (w0' e).2.2; omega⟩
      · exact ⟨par (by omega), by have := (w1 e).2; have := (w1' e).2; omega⟩
      · obtain ⟨m, r, x, y, hm, hE, hqr, hr, x1, x2, y1, y2, h2, h3, rx, ry⟩ := Gk_P hk k2 k6
        obtain ⟨m', r', x', y', hm', hE', hqr', hr', x1', x2', y1', y2', h2', h3', rx', ry'⟩ := Gk_P hk' k2 k6
        rw [h2, h2'] at al2
        rw [h3, h3'] at al3
        obtain ⟨i1, i2⟩ := Rg_cnt f _ _ _ x (by omega) rx
        obtain ⟨i1', i2'⟩ := Rg_cnt f _ _ _ x' (by omega) rx'
        have eb := bwW_alk z f _ _ al2
        have pe : c % 2 = c' % 2 := by
          rcases (show c % 2 = 0 ∨ c % 2 = 1 by omega) with h | h <;> rcases (show c' % 2 = 0 ∨ c' % 2 = 1 by omega) with h' | h'
          · omega
          · exfalso
            rw [h] at i1 i2 hE
            rw [h'] at i1' i2' hE'
            rw [Nat.add_zero] at i1 i2 hE
            obtain ⟨g1, g2, g3⟩ := g_b (hbr'.resolve_left (by omega)).1
            have s1 := spn_cons (gO E) (show i < i + 1 + 1 + m' by omega)
            have s2 := spn_cons (gB E) (show i < i + 1 + 1 + m' by omega)
            have s3 := spn_cons (gC E) (show i < i + 1 + 1 + m' by omega)
            have em := cut_eq (E := E) (i := i) (m := i + 1 + m) (m' := i + 1 + 1 + m') (by omega) (by omega) (by omega) (by omega) (by omega)
            rw [em] at i1
            omega
          · exfalso
            rw [h] at i1 i2 hE
            rw [h'] at i1' i2' hE'
            rw [Nat.add_zero] at i1' i2' hE'
            obtain ⟨g1, g2, g3⟩ := g_b (hbr.resolve_left (by omega)).1
            have s1 := spn_cons (gO E) (show i < i + 1 + 1 + m by omega)
            have s2 := spn_cons (gB E) (show i < i + 1 + 1 + m by omega)
            have s3 := spn_cons (gC E) (show i < i + 1 + 1 + m by omega)
            have em := cut_eq (E := E) (i := i) (m := i + 1 + m') (m' := i + 1 + 1 + m) (by omega) (by omega) (by omega) (by omega) (by omega)
            rw [em] at i1'
            omega
          · omega
        refine ⟨pe, ?_⟩
        rw [← pe] at rx' ry' hE' hm' hqr' hr' i2'
        have em := cut_eq (E := E) (i := i + c % 2) (m := i + c % 2 + 1 + m) (m' := i + c % 2 + 1 + m') (by omega) (by omega) (by omega) (by omega) (by omega)
        obtain rfl : m = m' := by omega
        have f1 := ih _ _ _ _ x x' z (by omega) (by omega) rx rx' al2
        have f2 := ih _ _ _ _ y y' z (by omega) (by omega) ry ry' al3
        have d1 := Nat.div_add_mod r (L (i + c % 2 + 1 + m + 1) (j - c % 2))
        have d2 := Nat.div_add_mod r' (L (i + c % 2 + 1 + m + 1) (j - c % 2))
        rw [f1, f2] at d1
        omega
      · have pe := par (by omega)
        rw [← pe] at hk'
        obtain ⟨x, x1, x2, h2, h3, rx⟩ := Gk_7 hk e
        obtain ⟨x', x1', x2', h2', h3', rx'⟩ := Gk_7 hk' e
        rw [h2, h2'] at al2
        exact ⟨pe, ih _ _ _ _ x x' z (by omega) (by omega) rx rx' al2⟩
      · have pe := par (by omega)
        rw [← pe] at hk'
        obtain ⟨x, x1, x2, h2, h3, rx⟩ := Gk_8 hk e
        obtain ⟨x', x1', x2', h2', h3', rx'⟩ := Gk_8 hk' e
        rw [h2, h2'] at al2
        exact ⟨pe, ih _ _ _ _ x x' z (by omega) (by omega) rx rx' al2⟩
      · have pe := par (by omega)
        rw [← pe] at hk'
        obtain ⟨x, x1, x2, h2, h3, rx⟩ := Gk_9 hk e
        obtain ⟨x', x1', x2', h2', h3', rx'⟩ := Gk_9 hk' e
        rw [h2, h2'] at al2
        exact ⟨pe, ih _ _ _ _ x x' z (by omega) (by omega) rx rx' al2⟩
theorem alk_rf {lo hi : Nat} {A : Nat → Nat → Int32} (hh : hi ≤ 450) (hT : tbI lo hi A) : ∀ (z n : Nat), lo ≤ n → n < hi → szN A n ≤ z → alk A z (nI n) (nI n)
  | 0, n, hlo, hn, hz => by
    have := (rN_sz (hT n hlo hn)).1
    omega
  | z + 1, n, hlo, hn, hz => by
    obtain ⟨k, h0, hk, hs, _⟩ := rN_val (hT n hlo hn)
    rw [alk_nn (by omega) (by omega)]
    refine ⟨rfl, rfl, rfl, ?_⟩
    rcases hs with ⟨k1, h2, h3, es⟩ | ⟨k1, k6, c, d, h2, la, hc, h3, lb, hd, es⟩ | ⟨k1, c, h2, la, hc, h3, es⟩
    · rw [h2, h3]
      exact ⟨alk_mm A z, alk_mm A z⟩
    · rw [h2, h3]
      exact ⟨alk_rf hh hT z c la (by omega) (by omega), alk_rf hh hT z d lb (by omega) (by omega)⟩
    · rw [h2, h3]
      exact ⟨alk_rf hh hT z c la (by omega) (by omega), alk_mm A z⟩
theorem Rg_cg {E : Nat → Nat} {G : Nat → Int32} {lt : Nat → Nat → Bool} {L L' : Nat → Nat → Nat} {A : Nat → Nat → Int32} {h : Nat} (e : ∀ a b, a < b → b ≤ h → L a b = L' a b) : ∀ (f i j p n : Nat), j ≤ h → Rg E (mG E G lt L) L A f i j p n → Rg E (mG E G lt L') L' A f i j p n
  | 0, _, _, _, _, _, h => h
  | f + 1, i, j, p, n, hj, ⟨c, q, h1, h2, h3, h0, h4⟩ => by
    have em : ∀ d, mG E G lt L i j d = mG E G lt L' i j d := fun d => mG_cg (fun a b _ q2 q3 _ => e a b q2 (by omega))
    refine ⟨c, q, h1, ?_, by rw [← em]; exact h3, h0, ?_⟩
    · rw [h2, sW_cg c (fun d _ => em d)]
    · rcases h4 with h4 | h4 | ⟨k7, x, x1, x2, g2, g3, hr⟩ | ⟨k7, x, x1, x2, g2, g3, hr⟩ | ⟨k7, g1, x, x1, x2, g2, g3, hr⟩ | ⟨k1, k6, d, r, x, y, hc, hE, hq, hr, x1, x2, y1, y2, g2, g3, rx, ry⟩
      · exact Or.inl h4
      · exact Or.inr (Or.inl h4)
      · exact Or.inr (Or.inr (Or.inl ⟨k7, x, x1, x2, g2, g3, Rg_cg e f _ _ _ x (by omega) hr⟩))
      · exact Or.inr (Or.inr (Or.inr (Or.inl ⟨k7, x, x1, x2, g2, g3, Rg_cg e f _ _ _ x (by omega) hr⟩)))
      · exact Or.inr (Or.inr (Or.inr (Or.inr (Or.inl ⟨k7, g1, x, x1, x2, g2, g3, Rg_cg e f _ _ _ x (by omega) hr⟩))))
      · have e1 := e (i + c % 2) (i + c % 2 + 1 + d) (by omega) (by omega)
        have e2 := e (i + c % 2 + 1 + d + 1) (j - c % 2) (by omega) (by omega)
        refine Or.inr (Or.inr (Or.inr (Or.inr (Or.inr ⟨k1, k6, d, r, x, y, hc, hE, ?_, by rw [← e1, ← e2]; exact hr, x1, x2, y1, y2, g2, g3, ?_, ?_⟩))))
        · rw [hq, pfS_cg (by omega) e d (by omega)]
        · rw [← e2]
          exact Rg_cg e f _ _ _ x (by omega) rx
        · rw [← e2]
          exact Rg_cg e f _ _ _ y (by omega) ry
/-- a NODE has no more NODES than words -/
theorem Rg_sz {E : Nat → Nat} {G : Nat → Int32} {lt : Nat → Nat → Bool} {L : Nat → Nat → Nat} {lo hi : Nat} {A : Nat → Nat → Int32} (hh : hi ≤ 450) (hT : tbI lo hi A) : ∀ (f i j p n : Nat), lo ≤ n → n < hi → Rg E (mG E G lt L) L A f i j p n → i < j ∧ szN A n ≤ j - i
  | 0, _, _, _, _, _, _, h => h.elim
  | f + 1, i, j, p, n, hlo, hn, ⟨c, q, h1, h2, h3, h0, h4⟩ => by
    obtain ⟨hw, _, _⟩ := mG_pos h3
    obtain ⟨hab, w0, w1, w7, w8, w9⟩ := wi_pos hw
    refine ⟨by omega, ?_⟩
    obtain ⟨k, g0, hk, hs, -, -⟩ := rN_val (hT n hlo hn)
    have ek : k = c / 2 := (nI_eq (by omega) (by omega)).mp (g0.symm.trans h0)
    rw [← ek] at h4 w7 w8 w9
    rcases hs with ⟨k1, e2, e3, es⟩ | ⟨k1, k6, x, y, e2, la, hx, e3, lb, hy, es⟩ | ⟨k1, x, e2, la, hx, e3, es⟩
    · omega
    · obtain ⟨m, r, x', y', hm, _, _, _, _, _, _, _, g2, g3, rx, ry⟩ := Gk_P h4 k1 k6
      have ex : x' = x := (nI_eq (by omega) (by omega)).mp (g2.symm.trans e2)
      have ey : y' = y := (nI_eq (by omega) (by omega)).mp (g3.symm.trans e3)
      subst ex ey
      have a1 := (Rg_sz hh hT f _ _ _ x' la (by omega) rx).2
      have a2 := (Rg_sz hh hT f _ _ _ y' lb (by omega) ry).2
      omega
    · rcases (show k = 7 ∨ k = 8 ∨ k = 9 by omega) with e | e | e
      · obtain ⟨x', _, _, g2, _, rx⟩ := Gk_7 h4 e
        have ex : x' = x := (nI_eq (by omega) (by omega)).mp (g2.symm.trans e2)
        subst ex
        have a1 := (Rg_sz hh hT f _ _ _ x' la (by omega) rx).2
        have := w7 e
        omega
      · obtain ⟨x', _, _, g2, _, rx⟩ := Gk_8 h4 e
        have ex : x' = x := (nI_eq (by omega) (by omega)).mp (g2.symm.trans e2)
        subst ex
        have a1 := (Rg_sz hh hT f _ _ _ x' la (by omega) rx).2
        have := w8 e
        omega
      · obtain ⟨x', _, _, g2, _, rx⟩ := Gk_9 h4 e
        have ex : x' = x := (nI_eq (by omega) (by omega)).mp (g2.symm.trans e2)
        subst ex
        have a1 := (Rg_sz hh hT f _ _ _ x' la (by omega) rx).2
        have := w9 e
        omega
/-- a READING is a RIGHT tree -/
theorem Rg_rt {E : Nat → Nat} {lt : Nat → Nat → Bool} {L : Nat → Nat → Nat} {lo hi : Nat} {A : Nat → Nat → Int32} (hh : hi ≤ 450) (hT : tbI lo hi A) : ∀ (f i j p n : Nat), lo ≤ n → n < hi → Rg E (mG E (A 6) lt L) L A f i j p n → rtW A f (nI n)
  | 0, _, _, _, _, _, _, h => h.elim
  | f + 1, i, j, p, n, hlo, hn, ⟨c, q, h1, h2, h3, h0, h4⟩ => by
    obtain ⟨hw, _, _⟩ := mG_pos h3
    obtain ⟨hab, w0, w1, w7, w8, w9⟩ := wi_pos hw
    obtain ⟨k, g0, hk, hs, -, -⟩ := rN_val (hT n hlo hn)
    have ek : k = c / 2 := (nI_eq (by omega) (by omega)).mp (g0.symm.trans h0)
    rw [← ek] at h4 hw w0 w7 w8 w9
    rw [rtW_i (by omega)]
    have ro : rtO A n := by
      refine ⟨fun e => ?_, fun e => ?_⟩
      · have e0 : k = 0 := (nI_eq (by omega) (by decide)).mp (g0.symm.trans e)
        have ev := Gk_0v h4 e0
        rw [e0, wi_0 hab] at hw
        split at hw
        · rename_i w
          rw [ev, nI_clamp (by omega)]
          exact w.2.2
        · omega
      · have e9 : k = 9 := (nI_eq (by omega) (by decide)).mp (g0.symm.trans e)
        have ev := Gk_9v h4 e9
        rw [e9, wi_9 hab] at hw
        split at hw
        · rename_i w
          rw [ev, nI_clamp (by omega)]
          exact w.2.1
        · omega
    rcases hs with ⟨k1, e2, e3, es⟩ | ⟨k1, k6, x, y, e2, la, hx, e3, lb, hy, es⟩ | ⟨k1, x, e2, la, hx, e3, es⟩
    · rw [e2, e3]
      exact ⟨ro, rtW_m2 A f, rtW_m2 A f⟩
    · obtain ⟨m, r, x', y', hm, _, _, _, _, _, _, _, g2, g3, rx, ry⟩ := Gk_P h4 k1 k6
      have ex : x' = x := (nI_eq (by omega) (by omega)).mp (g2.symm.trans e2)
      have ey : y' = y := (nI_eq (by omega) (by omega)).mp (g3.symm.trans e3)
      subst ex ey
      rw [e2, e3]
      exact ⟨ro, Rg_rt hh hT f _ _ _ x' la (by omega) rx, Rg_rt hh hT f _ _ _ y' lb (by omega) ry⟩
    · rw [e2, e3]
      refine ⟨ro, ?_, rtW_m2 A f⟩
      rcases (show k = 7 ∨ k = 8 ∨ k = 9 by omega) with e | e | e
      · obtain ⟨x', _, _, g2, _, rx⟩ := Gk_7 h4 e
        have ex : x' = x := (nI_eq (by omega) (by omega)).mp (g2.symm.trans e2)
        subst ex
        exact Rg_rt hh hT f _ _ _ x' la (by omega) rx
      · obtain ⟨x', _, _, g2, _, rx⟩ := Gk_8 h4 e
        have ex : x' = x := (nI_eq (by omega) (by omega)).mp (g2.symm.trans e2)
        subst ex
        exact Rg_rt hh hT f _ _ _ x' la (by omega) rx
      · obtain ⟨x', _, _, g2, _, rx⟩ := Gk_9 h4 e
        have ex : x' = x := (nI_eq (by omega) (by omega)).mp (g2.symm.trans e2)
        subst ex
        exact Rg_rt hh hT f _ _ _ x' la (by omega) rx
/-- an answer: a PLACE, or none -/
def ansR (v : Int64) (b : Nat) (R : Nat → Prop) : Prop := (∃ p, p < b ∧ v = lN p ∧ R p) ∨ (v = Int64.ofInt (-1) ∧ ∀ p, p < b → ¬ R p)
theorem nvN_ge {E : Nat → Nat} : ∀ (c m t : Nat), numAll E c m = true → t * 10 ^ c ≤ nvN E c m t
  | 0, m, t, _ => by show t * 1 ≤ t; omega
  | c + 1, m, t, h => by
    have h' : ((decide (10 ≤ E m) && decide (E m ≤ 19)) && numAll E c (m + 1)) = true := h
    simp only [Bool.and_eq_true, decide_eq_true_eq] at h'
    have ih := nvN_ge c (m + 1) (10 * t + E m - 10) h'.2
    show _ ≤ nvN E c (m + 1) (10 * t + E m - 10)
    refine Nat.le_trans ?_ ih
    rw [Nat.pow_succ, Nat.mul_comm (10 ^ c) 10, ← Nat.mul_assoc]
    exact Nat.mul_le_mul_right _ (by omega)
theorem num_dg {E : Nat → Nat} {a b : Nat} (hab : a < b) (h : isNumB E a b = true) : dgN (nI (nvN E (b - a) a 0)) = b - a := by
  have hn := isNumB_at h
  have hall : numAll E (b - a) a = true := by
    unfold isNumB at h
    simp only [Bool.and_eq_true] at h
    exact h.2
  refine dgN_of (by omega) hn.1 (by have := nvN_lt (b - a) a 0 hall; omega) (hn.2.1.symm.imp id (fun h10 => ?_))
  obtain ⟨c, ec⟩ : ∃ c, b - a = c + 1 := ⟨b - a - 1, by omega⟩
  rw [ec] at hall ⊢
  have h' : ((decide (10 ≤ E a) && decide (E a ≤ 19)) && numAll E c (a + 1)) = true := hall
  simp only [Bool.and_eq_true, decide_eq_true_eq] at h'
  have := nvN_ge c (a + 1) (10 * 0 + E a - 10) h'.2
  show 10 ^ (c + 1 - 1) ≤ nvN E c (a + 1) (10 * 0 + E a - 10)
  refine Nat.le_trans ?_ this
  rw [show c + 1 - 1 = c by omega]
  exact Nat.le_mul_of_pos_left _ (by omega)
theorem wi_unL {E : Nat → Nat} {G : Nat → Int32} {L : Nat → Nat → Nat} {k a b : Nat} (k7 : 7 ≤ k) (k9 : k < 10) (h : 0 < wi E G L k a b) : wi E G L k a b = L (pfN k a) (ptN k b) := by
  have hab := (wi_un k7 k9 h).1
  rw [keV_c hab L k (Or.inr ⟨k7, k9⟩), if_pos (wi_un k7 k9 h).2.2.2.2.2, if_neg (by omega)]
/-- a cut of a pair that reads both PARTS -/
def cutO (E : Nat → Nat) (L : Nat → Nat → Nat) (R : Nat → Nat → Nat → Nat → Prop) (k a b x y c : Nat) : Prop := a + 1 + c + 1 < b ∧ E (a + 1 + c) = 18 + k ∧ ∃ p q, p < L a (a + 1 + c) ∧ q < L (a + 1 + c + 1) b ∧ R a (a + 1 + c) p x ∧ R (a + 1 + c + 1) b q y
theorem G2_of {E : Nat → Nat} {G : Nat → Int32} {L : Nat → Nat → Nat} {A : Nat → Nat → Int32} {R : Nat → Nat → Nat → Nat → Prop} {k a b n x y c p q : Nat} (hB : BD L a b) (hw : b - a ≤ 20) (k2 : 2 ≤ k) (k6 : k ≤ 6) (hc : a + 1 + c + 1 < b) (hE : E (a + 1 + c) = 18 + k) (hp : p < L a (a + 1 + c)) (hq : q < L (a + 1 + c + 1) b) (hx : x < n) (hy : y < n) (h2 : A 2 n = nI x) (h3 : A 3 n = nI y) (rx : R a (a + 1 + c) p x) (ry : R (a + 1 + c + 1) b q y) : pfS E L k a b c + (p * L (a + 1 + c + 1) b + q) < wi E G L k a b ∧ Gk E L A R k a b (pfS E L k a b c + (p * L (a + 1 + c + 1) b + q)) n := by
  have h0 : 0 < L (a + 1 + c + 1) b := by omega
  have t5 := tm_5 hB hc
  have ht : tmW (L a (a + 1 + c)) (L (a + 1 + c + 1) b) = L a (a + 1 + c) * L (a + 1 + c + 1) b := tmW_eq (Nat.le_trans t5 (pow5_cap1 (by omega)))
  have hr : p * L (a + 1 + c + 1) b + q < tmW (L a (a + 1 + c)) (L (a + 1 + c + 1) b) := by
    rw [ht]
    have : (p + 1) * L (a + 1 + c + 1) b ≤ L a (a + 1 + c) * L (a + 1 + c + 1) b := Nat.mul_le_mul_right _ hp
    rw [Nat.add_mul, Nat.one_mul] at this
    omega
  have d1 : (p * L (a + 1 + c + 1) b + q) / L (a + 1 + c + 1) b = p := by
    rw [Nat.mul_comm, Nat.mul_add_div h0, Nat.div_eq_of_lt hq, Nat.add_zero]
  have d2 : (p * L (a + 1 + c + 1) b + q) % L (a + 1 + c + 1) b = q := by
    rw [Nat.mul_comm, Nat.mul_add_mod, Nat.mod_eq_of_lt hq]
  refine ⟨?_, Or.inr (Or.inr (Or.inr (Or.inr (Or.inr ⟨k2, k6, c, _, x, y, hc, hE, rfl, hr, Nat.zero_le _, hx, Nat.zero_le _, hy, h2, h3, by rw [d1]; exact rx, by rw [d2]; exact ry⟩))))⟩
  rw [wi_pf hB (by omega) hw k2 k6]
  have m1 := pfS_mono (E := E) (L := L) (k := k) (a := a) (b := b) (c + 1) (b - 1 - (a + 1) - (c + 1))
  rw [show c + 1 + (b - 1 - (a + 1) - (c + 1)) = b - 1 - (a + 1) by omega, pfS_at hE] at m1
  omega
theorem G2_no {E : Nat → Nat} {L : Nat → Nat → Nat} {A : Nat → Nat → Int32} {R : Nat → Nat → Nat → Nat → Prop} {k a b n x y : Nat} (hn : n < 450) (k2 : 2 ≤ k) (k6 : k ≤ 6) (hx : x < n) (hy : y < n) (h2 : A 2 n = nI x) (h3 : A 3 n = nI y) (h : ∀ c, ¬ cutO E L R k a b x y c) (q : Nat) : ¬ Gk E L A R k a b q n := fun g => by
  obtain ⟨c, r, x', y', hc, hE, _, hr, _, x2, _, y2, g2, g3, rx, ry⟩ := Gk_P g k2 k6
  have ex : x' = x := (nI_eq (by omega) (by omega)).mp (g2.symm.trans h2)
  have ey : y' = y := (nI_eq (by omega) (by omega)).mp (g3.symm.trans h3)
  subst ex ey
  obtain ⟨g0, g1, g4⟩ := tm_dm hr
  exact h c ⟨hc, hE, _, _, g1, g4, rx, ry⟩
end
