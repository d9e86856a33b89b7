section
set_option maxHeartbeats 1000000 in
set_option maxRecDepth 20000 in
theorem cGoT (O : Nat → Int32) (P : Nat → Nat → Int32) (Y : Nat → Nat → Int64) (g : Nat → zC) {u : Nat} (hu0 : u ≤ 120) (hO1 : O 1 = nI u) (hp : pgI u (P 2) (P 4) (P 5) (P 6)) {dd : Nat} (hd : dd < 40) (N D : Nat → Int32) (hb : O 13 = 0 ∨ O 13 = 1) (hr : O 13 = 1 → ∃ t, t < u ∧ rtN t dd N) (x : Int32) : zK 3 zX6_go [.ref 0, .int x] (wX (upd O 14 (nI dd)) (updA (updA P 56 N) 57 D) Y g) (fun r w' => ∃ (d' : Nat) (N' D' : Nat → Int32) (v : Int32), r = some (.int v) ∧ w' = (wX (upd O 14 (nI d')) (updA (updA P 56 N') 57 D') Y g) ∧ d' < 40 ∧ (O 13 = 1 → ∃ t, (t < u ∧ N 0 = nI t) ∧ rtN t d' N')) := by
  have hu : (O 1).toInt ≤ 120 := by rw [hO1, nI_toInt (by omega)]; omega
  refine zK_of qX6_go (by decide +kernel) rfl ?_
  iterate 2 (refine zv_step (bX6_go 3) rfl rfl trivial ?_)
  refine zv_ifb (fun h1 => ?_) (fun h1 => ?_)
  · iterate 1 (refine zv_step (bX6_go 3) rfl rfl trivial ?_)
    exact zv_iret (bX6_go 3) rfl (Or.inl rfl) (Nat.zero_le _) (Nat.zero_le _) ⟨dd, N, D, _, rfl, rfl, hd, fun h => by obtain ⟨t, ht, k⟩ := hr h; exact ⟨t, ⟨ht, k.1⟩, k⟩⟩
  · have h1a := h1
    iterate 3 (refine zv_step (bX6_go 3) rfl rfl trivial ?_)
    refine zv_ifb (fun h6 => ?_) (fun h6 => ?_)
    · iterate 2 (refine zv_step (bX6_go 3) rfl rfl trivial ?_)
      refine zv_V0 (bX6_go 3) rfl rfl rfl rfl rfl rfl rfl ⟨rfl, rfl, rfl⟩ ⟨by decide, by decide⟩ ⟨Nat.zero_le _, Nat.zero_le _⟩ (wBegun (upd O 14 (nI dd)) _ Y g hb) ?_
      rintro _ _ ⟨rfl, rfl⟩
      iterate 1 (refine zv_step (bX6_go 3) rfl rfl trivial ?_)
      refine zv_ifb (fun h18 => ?_) (fun h18 => ?_)
      · obtain ⟨k, hk, rfl⟩ : ∃ k : Nat, k < 4 ∧ x = nI k := by
          have a1 : ¬ x < 0 := h1a
          have a2 : x ≤ Int32.ofInt 3 := h6
          rw [Int32.lt_iff_toInt_lt, Int32.toInt_zero] at a1
          rw [Int32.le_iff_toInt_le, show (Int32.ofInt 3).toInt = 3 from rfl] at a2
          refine ⟨x.toInt.toNat, by omega, ?_⟩
          rw [← Int32.toInt_inj, nI_toInt (by omega)]
          omega
        clear h1a h6 h18
        rcases (show k = 0 ∨ k = 1 ∨ k = 2 ∨ k = 3 by omega) with rfl | rfl | rfl | rfl
        · iterate 1 (refine zv_step (bX6_go 3) rfl rfl trivial ?_)
          refine zv_step (bX6_go 3) rfl rfl (by decide) ?_
          iterate 7 (refine zv_step (bX6_go 3) rfl rfl trivial ?_)
          refine zv_V2 (bX6_go 3) rfl rfl rfl rfl rfl rfl rfl ⟨rfl, rfl, rfl⟩ ⟨by decide, by decide⟩ ⟨Nat.zero_le _, Nat.zero_le _⟩ (wDown O P Y g hu hd N D _) ?_
          rintro _ _ ⟨rfl, ⟨hz, rfl⟩ | ⟨hz, rfl⟩⟩
          · skip
            iterate 3 (refine zv_step (bX6_go 3) rfl rfl trivial ?_)
            refine zv_ift (rfl) ?_
            iterate 1 (refine zv_step (bX6_go 3) rfl rfl trivial ?_)
            exact zv_iret (bX6_go 3) rfl (Or.inl rfl) (Nat.zero_le _) (Nat.zero_le _) ⟨_, _, _, _, rfl, rfl, sdW_le hd, by have q := hr; intro h; obtain ⟨t, ht, k⟩ := q h; exact ⟨t, ⟨ht, k.1⟩, by rw [hO1]; exact rt_sd hu0 hp _ ht k⟩⟩
          · skip
            iterate 3 (refine zv_step (bX6_go 3) rfl rfl trivial ?_)
            refine zv_iff (by decide) ?_
            iterate 2 (refine zv_step (bX6_go 3) rfl rfl trivial ?_)
            refine zv_V0 (bX6_go 3) rfl rfl rfl rfl rfl rfl rfl ⟨rfl, rfl, rfl⟩ ⟨by decide, by decide⟩ ⟨Nat.zero_le _, Nat.zero_le _⟩ (wHere O P Y g (dd := (sdW (O 1) (P 4) (P 5) (nI 0 + Int32.ofInt 1) (dd, N, D)).1) (sdW_le hd) ((sdW (O 1) (P 4) (P 5) (nI 0 + Int32.ofInt 1) (dd, N, D)).2.1) ((sdW (O 1) (P 4) (P 5) (nI 0 + Int32.ofInt 1) (dd, N, D)).2.2)) ?_
            rintro _ _ ⟨rfl, rfl⟩
            iterate 1 (refine zv_step (bX6_go 3) rfl rfl trivial ?_)
            exact zv_iret (bX6_go 3) rfl (Or.inl rfl) (Nat.zero_le _) (Nat.zero_le _) ⟨_, _, _, _, rfl, rfl, sdW_le hd, by have q := hr; intro h; obtain ⟨t, ht, k⟩ := q h; exact ⟨t, ⟨ht, k.1⟩, by rw [hO1]; exact rt_sd hu0 hp _ ht k⟩⟩
        · iterate 1 (refine zv_step (bX6_go 3) rfl rfl trivial ?_)
          refine zv_step (bX6_go 3) rfl rfl (by decide) ?_
          iterate 7 (refine zv_step (bX6_go 3) rfl rfl trivial ?_)
          refine zv_V2 (bX6_go 3) rfl rfl rfl rfl rfl rfl rfl ⟨rfl, rfl, rfl⟩ ⟨by decide, by decide⟩ ⟨Nat.zero_le _, Nat.zero_le _⟩ (wDown O P Y g hu hd N D _) ?_
          rintro _ _ ⟨rfl, ⟨hz, rfl⟩ | ⟨hz, rfl⟩⟩
          · skip
            iterate 3 (refine zv_step (bX6_go 3) rfl rfl trivial ?_)
            refine zv_ift (rfl) ?_
            iterate 1 (refine zv_step (bX6_go 3) rfl rfl trivial ?_)
            exact zv_iret (bX6_go 3) rfl (Or.inl rfl) (Nat.zero_le _) (Nat.zero_le _) ⟨_, _, _, _, rfl, rfl, sdW_le hd, by have q := hr; intro h; obtain ⟨t, ht, k⟩ := q h; exact ⟨t, ⟨ht, k.1⟩, by rw [hO1]; exact rt_sd hu0 hp _ ht k⟩⟩
          · skip
            iterate 3 (refine zv_step (bX6_go 3) rfl rfl trivial ?_)
            refine zv_iff (by decide) ?_
            iterate 2 (refine zv_step (bX6_go 3) rfl rfl trivial ?_)
            refine zv_V0 (bX6_go 3) rfl rfl rfl rfl rfl rfl rfl ⟨rfl, rfl, rfl⟩ ⟨by decide, by decide⟩ ⟨Nat.zero_le _, Nat.zero_le _⟩ (wHere O P Y g (dd := (sdW (O 1) (P 4) (P 5) (nI 1 + Int32.ofInt 1) (dd, N, D)).1) (sdW_le hd) ((sdW (O 1) (P 4) (P 5) (nI 1 + Int32.ofInt 1) (dd, N, D)).2.1) ((sdW (O 1) (P 4) (P 5) (nI 1 + Int32.ofInt 1) (dd, N, D)).2.2)) ?_
            rintro _ _ ⟨rfl, rfl⟩
            iterate 1 (refine zv_step (bX6_go 3) rfl rfl trivial ?_)
            exact zv_iret (bX6_go 3) rfl (Or.inl rfl) (Nat.zero_le _) (Nat.zero_le _) ⟨_, _, _, _, rfl, rfl, sdW_le hd, by have q := hr; intro h; obtain ⟨t, ht, k⟩ := q h; exact ⟨t, ⟨ht, k.1⟩, by rw [hO1]; exact rt_sd hu0 hp _ ht k⟩⟩
        · iterate 1 (refine zv_step (bX6_go 3) rfl rfl trivial ?_)
          refine zv_step (bX6_go 3) rfl rfl (by decide) ?_
          iterate 2 (refine zv_step (bX6_go 3) rfl rfl trivial ?_)
          refine zv_V0 (bX6_go 3) rfl rfl rfl rfl rfl rfl rfl ⟨rfl, rfl, rfl⟩ ⟨by decide, by decide⟩ ⟨Nat.zero_le _, Nat.zero_le _⟩ (wUp O P Y g hd N D) ?_
          rintro _ _ ⟨rfl, ⟨hz, rfl⟩ | ⟨hz, rfl⟩⟩
          · skip
            iterate 4 (refine zv_step (bX6_go 3) rfl rfl trivial ?_)
            refine zv_ift (rfl) ?_
            iterate 1 (refine zv_step (bX6_go 3) rfl rfl trivial ?_)
            exact zv_iret (bX6_go 3) rfl (Or.inl rfl) (Nat.zero_le _) (Nat.zero_le _) ⟨dd - 1, N, D, _, rfl, rfl, by omega, by have q := hr; intro h; obtain ⟨t, ht, k⟩ := q h; exact ⟨t, ⟨ht, k.1⟩, rt_up k (by omega)⟩⟩
          · skip
            iterate 4 (refine zv_step (bX6_go 3) rfl rfl trivial ?_)
            refine zv_iff (by decide) ?_
            iterate 2 (refine zv_step (bX6_go 3) rfl rfl trivial ?_)
            refine zv_V0 (bX6_go 3) rfl rfl rfl rfl rfl rfl rfl ⟨rfl, rfl, rfl⟩ ⟨by decide, by decide⟩ ⟨Nat.zero_le _, Nat.zero_le _⟩ (wHere O P Y g (dd := dd - 1) (by omega) (N) (D)) ?_
            rintro _ _ ⟨rfl, rfl⟩
            iterate 1 (refine zv_step (bX6_go 3) rfl rfl trivial ?_)
            exact zv_iret (bX6_go 3) rfl (Or.inl rfl) (Nat.zero_le _) (Nat.zero_le _) ⟨dd - 1, N, D, _, rfl, rfl, by omega, by have q := hr; intro h; obtain ⟨t, ht, k⟩ := q h; exact ⟨t, ⟨ht, k.1⟩, rt_up k (by omega)⟩⟩
        · cases dd with
          | zero =>
            iterate 1 (refine zv_step (bX6_go 3) rfl rfl trivial ?_)
            refine zv_step (bX6_go 3) rfl rfl (by decide) ?_
            iterate 4 (refine zv_step (bX6_go 3) rfl rfl trivial ?_)
            refine zv_V1 (bX6_go 3) rfl rfl rfl rfl rfl rfl rfl ⟨rfl, rfl, rfl⟩ ⟨by decide, by decide⟩ ⟨Nat.zero_le _, Nat.zero_le _⟩ (wBeside0 O P Y g N D) ?_
            rintro _ _ ⟨rfl, rfl⟩
            iterate 4 (refine zv_step (bX6_go 3) rfl rfl trivial ?_)
            refine zv_ift (rfl) ?_
            iterate 1 (refine zv_step (bX6_go 3) rfl rfl trivial ?_)
            exact zv_iret (bX6_go 3) rfl (Or.inl rfl) (Nat.zero_le _) (Nat.zero_le _) ⟨0, N, D, _, rfl, rfl, by omega, fun h => by obtain ⟨t, ht, k⟩ := hr h; exact ⟨t, ⟨ht, k.1⟩, k⟩⟩
          | succ m =>
            iterate 1 (refine zv_step (bX6_go 3) rfl rfl trivial ?_)
            refine zv_step (bX6_go 3) rfl rfl (by decide) ?_
            iterate 4 (refine zv_step (bX6_go 3) rfl rfl trivial ?_)
            refine zv_V1 (bX6_go 3) rfl rfl rfl rfl rfl rfl rfl ⟨rfl, rfl, rfl⟩ ⟨by decide, by decide⟩ ⟨Nat.zero_le _, Nat.zero_le _⟩ (wBeside1 O P Y g hu hd N D) ?_
            rintro _ _ (⟨hz, rfl, rfl⟩ | ⟨hz, rfl, rfl⟩)
            · skip
              iterate 4 (refine zv_step (bX6_go 3) rfl rfl trivial ?_)
              refine zv_ift (rfl) ?_
              iterate 1 (refine zv_step (bX6_go 3) rfl rfl trivial ?_)
              exact zv_iret (bX6_go 3) rfl (Or.inl rfl) (Nat.zero_le _) (Nat.zero_le _) ⟨m + 1, N, D, _, rfl, rfl, hd, fun h => by obtain ⟨t, ht, k⟩ := hr h; exact ⟨t, ⟨ht, k.1⟩, k⟩⟩
            · skip
              iterate 4 (refine zv_step (bX6_go 3) rfl rfl trivial ?_)
              refine zv_iff (by decide) ?_
              iterate 2 (refine zv_step (bX6_go 3) rfl rfl trivial ?_)
              refine zv_V0 (bX6_go 3) rfl rfl rfl rfl rfl rfl rfl ⟨rfl, rfl, rfl⟩ ⟨by decide, by decide⟩ ⟨Nat.zero_le _, Nat.zero_le _⟩ (wHere O P Y g (dd := m + 1) (hd) (upd N (m + 1) (ptW (O 1) (P 4) (P 5) (N m) (Int32.ofInt 3 - D (m + 1)))) (upd D (m + 1) (Int32.ofInt 3 - D (m + 1)))) ?_
              rintro _ _ ⟨rfl, rfl⟩
              iterate 1 (refine zv_step (bX6_go 3) rfl rfl trivial ?_)
              exact zv_iret (bX6_go 3) rfl (Or.inl rfl) (Nat.zero_le _) (Nat.zero_le _) ⟨m + 1, _, _, _, rfl, rfl, hd, by have q := hr; intro h; obtain ⟨t, ht, k⟩ := q h; exact ⟨t, ⟨ht, k.1⟩, by rw [hO1] at hz ⊢; exact rt_set k (by omega) (by omega) (pt_ok hu0 hp k ht (by omega) hz)⟩⟩
      · iterate 1 (refine zv_step (bX6_go 3) rfl rfl trivial ?_)
        exact zv_iret (bX6_go 3) rfl (Or.inl rfl) (Nat.zero_le _) (Nat.zero_le _) ⟨dd, N, D, _, rfl, rfl, hd, fun h => by obtain ⟨t, ht, k⟩ := hr h; exact ⟨t, ⟨ht, k.1⟩, k⟩⟩
    · iterate 1 (refine zv_step (bX6_go 3) rfl rfl trivial ?_)
      exact zv_iret (bX6_go 3) rfl (Or.inl rfl) (Nat.zero_le _) (Nat.zero_le _) ⟨dd, N, D, _, rfl, rfl, hd, fun h => by obtain ⟨t, ht, k⟩ := hr h; exact ⟨t, ⟨ht, k.1⟩, k⟩⟩
set_option maxHeartbeats 1000000 in
set_option maxRecDepth 20000 in
theorem cLeadT (O : Nat → Int32) (P : Nat → Nat → Int32) (Y : Nat → Nat → Int64) (g : Nat → zC) {u : Nat} (hu0 : u ≤ 120) (h1 : O 1 = nI u) (hp : pgI u (P 2) (P 4) (P 5) (P 6)) {dd : Nat} (hb : O 13 = 0 ∨ O 13 = 1) (hr : O 13 = 1 → ∃ t, t < u ∧ rtN t dd (P 56)) (x : Int32) : zK 4 zX6_lead [.ref 0, .int x] (wX O P Y g) (fun r w' => (∃ v : Int32, r = some (.int v)) ∧ (w' = wX O P Y g ∨ ∃ (d' : Nat) (N' D' : Nat → Int32), w' = (wX (upd O 14 (nI d')) (updA (updA P 56 N') 57 D') Y g) ∧ d' < 40 ∧ (O 13 = 1 → ∃ t, (t < u ∧ P 56 0 = nI t) ∧ rtN t d' N'))) := by
  have hu : (O 1).toInt ≤ 120 := by rw [h1, nI_toInt (by omega)]; omega
  refine zK_of qX6_lead (by decide +kernel) rfl ?_
  iterate 2 (refine zv_step (bX6_lead 4) rfl rfl trivial ?_)
  refine zv_V0 (bX6_lead 4) rfl rfl rfl rfl rfl rfl rfl ⟨rfl, rfl, rfl⟩ ⟨by decide, by decide⟩ ⟨Nat.zero_le _, Nat.zero_le _⟩ (wBegun O P Y g hb) ?_
  rintro _ _ ⟨rfl, rfl⟩
  iterate 1 (refine zv_step (bX6_lead 4) rfl rfl trivial ?_)
  refine zv_ifb (fun h7 => ?_) (fun h7 => ?_)
  · iterate 5 (refine zv_step (bX6_lead 4) rfl rfl trivial ?_)
    refine zv_V2 (bX6_lead 4) rfl rfl rfl rfl rfl rfl rfl ⟨rfl, rfl, rfl⟩ ⟨by decide, by decide⟩ ⟨Nat.zero_le _, Nat.zero_le _⟩ (wFollow O P Y g hu _) ?_
    rintro _ _ (⟨hz, rfl, rfl⟩ | ⟨hz, rfl, rfl⟩)
    · have hle : (foW (O 1) (P 4) (P 5) 20 x (0, P 56, P 57)).1 < 40 := foW_le _ _ _ (show 0 < 40 by decide)
      have hk : O 13 = 1 → ∃ t, (t < u ∧ P 56 0 = nI t) ∧ rtN t (foW (O 1) (P 4) (P 5) 20 x (0, P 56, P 57)).1 (foW (O 1) (P 4) (P 5) 20 x (0, P 56, P 57)).2.1 := fun h => by
        obtain ⟨t, ht, k⟩ := hr h
        refine ⟨t, ⟨ht, k.1⟩, ?_⟩
        rw [h1]
        exact (rt_fo hu0 hp ht 20 x (0, P 56, P 57) (show 0 < 40 by decide)).2 (rt_up k (Nat.zero_le _))
      generalize (foW (O 1) (P 4) (P 5) 20 x (0, P 56, P 57)) = s at hle hk ⊢
      iterate 1 (refine zv_step (bX6_lead 4) rfl rfl trivial ?_)
      refine zv_iff (by decide) ?_
      iterate 2 (refine zv_step (bX6_lead 4) rfl rfl trivial ?_)
      refine zv_V0 (bX6_lead 4) rfl rfl rfl rfl rfl rfl rfl ⟨rfl, rfl, rfl⟩ ⟨by decide, by decide⟩ ⟨Nat.zero_le _, Nat.zero_le _⟩ (wHere O P Y g (dd := s.1) hle s.2.1 s.2.2) ?_
      rintro _ _ ⟨rfl, rfl⟩
      iterate 1 (refine zv_step (bX6_lead 4) rfl rfl trivial ?_)
      exact zv_iret (bX6_lead 4) rfl (Or.inl rfl) (Nat.zero_le _) (Nat.zero_le _) ⟨⟨_, rfl⟩, Or.inr ⟨_, _, _, rfl, hle, hk⟩⟩
    · skip
      iterate 1 (refine zv_step (bX6_lead 4) rfl rfl trivial ?_)
      refine zv_ift (rfl) ?_
      iterate 1 (refine zv_step (bX6_lead 4) rfl rfl trivial ?_)
      exact zv_iret (bX6_lead 4) rfl (Or.inl rfl) (Nat.zero_le _) (Nat.zero_le _) ⟨⟨_, rfl⟩, Or.inl rfl⟩
  · iterate 1 (refine zv_step (bX6_lead 4) rfl rfl trivial ?_)
    exact zv_iret (bX6_lead 4) rfl (Or.inl rfl) (Nat.zero_le _) (Nat.zero_le _) ⟨⟨_, rfl⟩, Or.inl rfl⟩
set_option maxHeartbeats 1000000 in
set_option maxRecDepth 20000 in
theorem mGoT (f : Nat → zC) (o : Nat → Int32) (A : Nat → Nat → Int32) (J : Nat → Nat → Int64) {u : Nat} (hu : u ≤ 120) (hT : tbI 0 u A) {d : Nat} (hd : d ≤ 39) {N : Nat → Int32} (D : Nat → Int32) (hb : o 30 = 0 ∨ o 30 = 1) (hr : o 30 = 1 → ∃ t, t < u ∧ rtM A t d N) (x : Int32) : zK 2 zX7_go [.ref 76, .int x] (wR f (upd o 33 (nI d)) (updA (updA A 20 N) 21 D) J) (fun r w' => ∃ (d' : Nat) (N' D' : Nat → Int32) (R : Int32), r = some (.int R) ∧ w' = (wR f (upd o 33 (nI d')) (updA (updA A 20 N') 21 D') J) ∧ (o 30 = 1 → ∃ t, (t < u ∧ N 0 = nI t) ∧ rtM A t d' N') ∧ d' ≤ 39) := by
  refine zK_of qX7_go (by decide +kernel) rfl ?_
  iterate 4 (refine zv_step (bX7_go 2) rfl rfl trivial ?_)
  refine zv_S3 (bX7_go 2) rfl rfl rfl rfl ⟨rfl, rfl, rfl⟩ ⟨by decide, by decide⟩ ⟨Nat.zero_le _, Nat.zero_le _⟩ (mIn _ _ _ _ (a := 0) (b := 3) (by decide) (by decide)) ?_
  rintro _ _ ⟨rfl, ⟨g1, rfl⟩ | ⟨g1, rfl⟩⟩
  · skip
    iterate 1 (refine zv_step (bX7_go 2) rfl rfl trivial ?_)
    refine zv_ift (by decide) ?_
    iterate 3 (refine zv_step (bX7_go 2) rfl rfl trivial ?_)
    refine zv_ifb (fun h18 => ?_) (fun h18 => ?_)
    · obtain ⟨t, ht, hr0⟩ := hr (hb.resolve_left h18)
      iterate 3 (refine zv_step (bX7_go 2) rfl rfl trivial ?_)
      refine zv_ifb (fun h26 => ?_) (fun h26 => ?_)
      · iterate 3 (refine zv_step (bX7_go 2) rfl rfl trivial ?_)
        refine zv_ifb (fun h56 => ?_) (fun h56 => ?_)
        · iterate 1 (refine zv_step (bX7_go 2) rfl rfl trivial ?_)
          exact zv_iret (bX7_go 2) rfl (Or.inl rfl) (Nat.zero_le _) (Nat.zero_le _) ⟨d, N, D, _, rfl, rfl, fun h => by obtain ⟨t, ht, k⟩ := hr h; exact ⟨t, ⟨ht, k.1⟩, k⟩, hd⟩
        · have d0 : d ≠ 0 := fun e => h56 (by rw [e]; rfl)
          obtain ⟨j, hj, ej, hz⟩ := hr0.2 (d - 1) (by omega)
          have em : nI d - Int32.ofInt 1 = nI (d - 1) := sub_1 (by omega)
          iterate 3 (refine zv_step (bX7_go 2) rfl rfl trivial ?_)
          refine zv_ifb (fun h61 => ?_) (fun h61 => ?_)
          · iterate 6 (refine zv_step (bX7_go 2) rfl rfl trivial ?_)
            refine zv_world (show _ = (wR f (upd o 33 (nI (d - 1))) (updA (updA A 20 N) 21 D) J) from by rw [← em]; rfl) ?_
            iterate 3 (refine zv_step (bX7_go 2) rfl rfl trivial ?_)
            refine zv_ifb (fun h98 => ?_) (fun h98 => ?_)
            · iterate 4 (refine zv_step (bX7_go 2) rfl rfl trivial ?_)
              refine zv_step (bX7_go 2) rfl rfl (show vp_in (nI (d - 1)) 41 from vp_in_nI (by omega) (by decide)) ?_
              exact zv_iret (bX7_go 2) rfl (Or.inl rfl) (Nat.zero_le _) (Nat.zero_le _) ⟨d - 1, N, D, _, rfl, rfl, fun _ => ⟨t, ⟨ht, hr0.1⟩, rtM_up hr0 (by omega)⟩, by omega⟩
            · iterate 8 (refine zv_step (bX7_go 2) rfl rfl trivial ?_)
              refine zv_step (bX7_go 2) rfl rfl (show vp_in (nI (d - 1) + Int32.ofInt 1) 41 by rw [show nI (d - 1) + Int32.ofInt 1 = nI (d - 1 + 1) from nI_1 _]; exact vp_in_nI (by omega) (by decide)) ?_
              iterate 1 (refine zv_step (bX7_go 2) rfl rfl trivial ?_)
              refine zv_V1 (bX7_go 2) rfl rfl rfl rfl rfl rfl rfl ⟨rfl, rfl, rfl⟩ ⟨by decide, by decide⟩ ⟨Nat.zero_le _, Nat.zero_le _⟩ (mDown f o A J hu hT ht D (rtM_up hr0 (show d - 1 ≤ d by omega)) _) ?_
              rintro _ _ ⟨d1, N1, D1, rfl, hr1, rfl | rfl⟩
              · have hd1 := rtM_d hT ht hr1
                iterate 5 (refine zv_step (bX7_go 2) rfl rfl trivial ?_)
                refine zv_step (bX7_go 2) rfl rfl (show vp_in (nI d1) 41 from vp_in_nI (by omega) (by decide)) ?_
                exact zv_iret (bX7_go 2) rfl (Or.inl rfl) (Nat.zero_le _) (Nat.zero_le _) ⟨d1, N1, D1, _, rfl, rfl, fun _ => ⟨t, ⟨ht, hr0.1⟩, hr1⟩, hd1⟩
              · have hd1 := rtM_d hT ht hr1
                iterate 5 (refine zv_step (bX7_go 2) rfl rfl trivial ?_)
                refine zv_step (bX7_go 2) rfl rfl (show vp_in (nI d1) 41 from vp_in_nI (by omega) (by decide)) ?_
                exact zv_iret (bX7_go 2) rfl (Or.inl rfl) (Nat.zero_le _) (Nat.zero_le _) ⟨d1, N1, D1, _, rfl, rfl, fun _ => ⟨t, ⟨ht, hr0.1⟩, hr1⟩, hd1⟩
          · iterate 8 (refine zv_step (bX7_go 2) rfl rfl trivial ?_)
            refine zv_iale (bX7_go 2) rfl rfl (show vp_in (nI d - Int32.ofInt 1) 41 by rw [em]; exact vp_in_nI (by omega) (by decide)) (show N (nI d - Int32.ofInt 1).toNatClampNeg = nI j by rw [em, nI_clamp (by omega)]; exact ej) ?_
            refine zv_step (bX7_go 2) rfl rfl (vp_in_nI (by omega) (by decide)) ?_
            iterate 1 (refine zv_step (bX7_go 2) rfl rfl trivial ?_)
            refine zv_ifb (fun h80 => ?_) (fun h80 => ?_)
            · iterate 6 (refine zv_step (bX7_go 2) rfl rfl trivial ?_)
              refine zv_world (show _ = (wR f (upd o 33 (nI (d - 1))) (updA (updA A 20 N) 21 D) J) from by rw [← em]; rfl) ?_
              iterate 3 (refine zv_step (bX7_go 2) rfl rfl trivial ?_)
              refine zv_ifb (fun h98 => ?_) (fun h98 => ?_)
              · iterate 4 (refine zv_step (bX7_go 2) rfl rfl trivial ?_)
                refine zv_step (bX7_go 2) rfl rfl (show vp_in (nI (d - 1)) 41 from vp_in_nI (by omega) (by decide)) ?_
                exact zv_iret (bX7_go 2) rfl (Or.inl rfl) (Nat.zero_le _) (Nat.zero_le _) ⟨d - 1, N, D, _, rfl, rfl, fun _ => ⟨t, ⟨ht, hr0.1⟩, rtM_up hr0 (by omega)⟩, by omega⟩
              · iterate 8 (refine zv_step (bX7_go 2) rfl rfl trivial ?_)
                refine zv_step (bX7_go 2) rfl rfl (show vp_in (nI (d - 1) + Int32.ofInt 1) 41 by rw [show nI (d - 1) + Int32.ofInt 1 = nI (d - 1 + 1) from nI_1 _]; exact vp_in_nI (by omega) (by decide)) ?_
                iterate 1 (refine zv_step (bX7_go 2) rfl rfl trivial ?_)
                refine zv_V1 (bX7_go 2) rfl rfl rfl rfl rfl rfl rfl ⟨rfl, rfl, rfl⟩ ⟨by decide, by decide⟩ ⟨Nat.zero_le _, Nat.zero_le _⟩ (mDown f o A J hu hT ht D (rtM_up hr0 (show d - 1 ≤ d by omega)) _) ?_
                rintro _ _ ⟨d1, N1, D1, rfl, hr1, rfl | rfl⟩
                · have hd1 := rtM_d hT ht hr1
                  iterate 5 (refine zv_step (bX7_go 2) rfl rfl trivial ?_)
                  refine zv_step (bX7_go 2) rfl rfl (show vp_in (nI d1) 41 from vp_in_nI (by omega) (by decide)) ?_
                  exact zv_iret (bX7_go 2) rfl (Or.inl rfl) (Nat.zero_le _) (Nat.zero_le _) ⟨d1, N1, D1, _, rfl, rfl, fun _ => ⟨t, ⟨ht, hr0.1⟩, hr1⟩, hd1⟩
                · have hd1 := rtM_d hT ht hr1
                  iterate 5 (refine zv_step (bX7_go 2) rfl rfl trivial ?_)
                  refine zv_step (bX7_go 2) rfl rfl (show vp_in (nI d1) 41 from vp_in_nI (by omega) (by decide)) ?_
                  exact zv_iret (bX7_go 2) rfl (Or.inl rfl) (Nat.zero_le _) (Nat.zero_le _) ⟨d1, N1, D1, _, rfl, rfl, fun _ => ⟨t, ⟨ht, hr0.1⟩, hr1⟩, hd1⟩
            · iterate 1 (refine zv_step (bX7_go 2) rfl rfl trivial ?_)
              exact zv_iret (bX7_go 2) rfl (Or.inl rfl) (Nat.zero_le _) (Nat.zero_le _) ⟨d, N, D, _, rfl, rfl, fun h => by obtain ⟨t, ht, k⟩ := hr h; exact ⟨t, ⟨ht, k.1⟩, k⟩, hd⟩
      · iterate 2 (refine zv_step (bX7_go 2) rfl rfl trivial ?_)
        refine zv_V1 (bX7_go 2) rfl rfl rfl rfl rfl rfl rfl ⟨rfl, rfl, rfl⟩ ⟨by decide, by decide⟩ ⟨Nat.zero_le _, Nat.zero_le _⟩ (mDown f o A J hu hT ht D hr0 _) ?_
        rintro _ _ ⟨d1, N1, D1, rfl, hr1, rfl | rfl⟩
        · have hd1 := rtM_d hT ht hr1
          iterate 1 (refine zv_step (bX7_go 2) rfl rfl trivial ?_)
          refine zv_iff (by decide) ?_
          iterate 4 (refine zv_step (bX7_go 2) rfl rfl trivial ?_)
          refine zv_step (bX7_go 2) rfl rfl (show vp_in (nI d1) 41 from vp_in_nI (by omega) (by decide)) ?_
          iterate 1 (refine zv_step (bX7_go 2) rfl rfl trivial ?_)
          exact zv_iret (bX7_go 2) rfl (Or.inl rfl) (Nat.zero_le _) (Nat.zero_le _) ⟨d1, N1, D1, _, rfl, rfl, fun _ => ⟨t, ⟨ht, hr0.1⟩, hr1⟩, hd1⟩
        · have hd1 := rtM_d hT ht hr1
          iterate 1 (refine zv_step (bX7_go 2) rfl rfl trivial ?_)
          refine zv_ift (by decide) ?_
          iterate 1 (refine zv_step (bX7_go 2) rfl rfl trivial ?_)
          exact zv_iret (bX7_go 2) rfl (Or.inl rfl) (Nat.zero_le _) (Nat.zero_le _) ⟨d1, N1, D1, _, rfl, rfl, fun _ => ⟨t, ⟨ht, hr0.1⟩, hr1⟩, hd1⟩
    · iterate 1 (refine zv_step (bX7_go 2) rfl rfl trivial ?_)
      exact zv_iret (bX7_go 2) rfl (Or.inl rfl) (Nat.zero_le _) (Nat.zero_le _) ⟨d, N, D, _, rfl, rfl, fun h => by obtain ⟨t, ht, k⟩ := hr h; exact ⟨t, ⟨ht, k.1⟩, k⟩, hd⟩
  · skip
    iterate 1 (refine zv_step (bX7_go 2) rfl rfl trivial ?_)
    refine zv_iff (by decide) ?_
    iterate 1 (refine zv_step (bX7_go 2) rfl rfl trivial ?_)
    exact zv_iret (bX7_go 2) rfl (Or.inl rfl) (Nat.zero_le _) (Nat.zero_le _) ⟨d, N, D, _, rfl, rfl, fun h => by obtain ⟨t, ht, k⟩ := hr h; exact ⟨t, ⟨ht, k.1⟩, k⟩, hd⟩
set_option maxHeartbeats 1000000 in
set_option maxRecDepth 20000 in
theorem mLeadT (f : Nat → zC) (o : Nat → Int32) (A : Nat → Nat → Int32) (J : Nat → Nat → Int64) {u : Nat} (hu : u ≤ 120) (hT : tbI 0 u A) {d : Nat} (hb : o 30 = 0 ∨ o 30 = 1) (hr : o 30 = 1 → ∃ t, t < u ∧ rtM A t d (A 20)) (x : Int32) : zK 2 zX7_lead [.ref 76, .int x] (wR f o A J) (fun r w' => (∃ R : Int32, r = some (.int R)) ∧ (w' = (wR f o A J) ∨ ∃ (d' : Nat) (N' D' : Nat → Int32), w' = (wR f (upd o 33 (nI d')) (updA (updA A 20 N') 21 D') J) ∧ (o 30 = 1 → ∃ t, (t < u ∧ A 20 0 = nI t) ∧ rtM A t d' N') ∧ d' ≤ 39)) := by
  refine zK_of qX7_lead (by decide +kernel) rfl ?_
  iterate 3 (refine zv_step (bX7_lead 2) rfl rfl trivial ?_)
  refine zv_ifb (fun h4 => ?_) (fun h4 => ?_)
  · obtain ⟨t, ht, hr0⟩ := hr (hb.resolve_left h4)
    iterate 3 (refine zv_step (bX7_lead 2) rfl rfl trivial ?_)
    refine zv_iale (bX7_lead 2) rfl rfl (show vp_in (nI 0) 41 from vp_in_nI (by decide) (by decide)) (show A 20 0 = nI t from hr0.1) ?_
    iterate 3 (refine zv_step (bX7_lead 2) rfl rfl trivial ?_)
    refine zv_weak (fun r w q => ?_) (leadL1 f o A J hu hT ht hr0 x.toInt.toNat x (nI t) (by omega) (Or.inr ⟨t, rfl, ht⟩))
    obtain ⟨e1, e2 | ⟨d1, N1, D1, e2, e3, e4⟩⟩ := q
    · exact ⟨e1, Or.inl e2⟩
    · exact ⟨e1, Or.inr ⟨d1, N1, D1, e2, fun _ => ⟨t, ⟨ht, hr0.1⟩, e3⟩, e4⟩⟩
  · iterate 1 (refine zv_step (bX7_lead 2) rfl rfl trivial ?_)
    exact zv_iret (bX7_lead 2) rfl (Or.inl rfl) (Nat.zero_le _) (Nat.zero_le _) ⟨⟨_, rfl⟩, Or.inl rfl⟩
/-- what doubt changes of the class, and of the reference -/
def dbC (O : Nat → Int32) (P : Nat → Nat → Int32) (O' : Nat → Int32) (P' : Nat → Nat → Int32) (Y' : Nat → Nat → Int64) : Prop := wyI Y' ∧ (∀ j, j ≠ 2 → j ≠ 10 → j ≠ 11 → j ≠ 12 → O' j = O j) ∧ (∀ i, ¬ (14 < i ∧ i ≤ 14 + 12) → P' i = P i)
def dbM (o : Nat → Int32) (u : Nat) (A : Nat → Nat → Int32) (o' : Nat → Int32) (A' : Nat → Nat → Int32) : Prop := (o' 0 = nI u ∧ tbI 0 u A') ∧ (∀ j, j ≠ 0 → j ≠ 28 → j ≠ 29 → o' j = o j) ∧ (∀ r, 6 ≤ r → A' r = A r) ∧ (∀ r i, i < u → A' r i = A r i)
set_option maxHeartbeats 1000000 in
set_option maxRecDepth 20000 in
theorem cDoubtT (O : Nat → Int32) (P : Nat → Nat → Int32) (Y : Nat → Nat → Int64) (g : Nat → zC) {u : Nat} (hu : u ≤ 120) (hO1 : O 1 = nI u) (hp : pgB 1 u P) (hY : wyI Y) {l : Nat} (hl : l ≤ 20) (hO : O 9 = nI l) (x : Int32) (k k2 : Int64) : zK 66 zX6_doubt [.ref 0, .int x, .long k, .long k2] (wX O P Y g) (fun r w' => ∃ (O' : Nat → Int32) (P' : Nat → Nat → Int32) (Y' : Nat → Nat → Int64) (R : Int32), r = some (.int R) ∧ w' = wX O' P' Y' g ∧ dbC O P O' P' Y') := by
  refine zK_of qX6_doubt (by decide +kernel) rfl ?_
  iterate 1 (refine zv_step (bX6_doubt 66) rfl rfl trivial ?_)
  refine zv_S1 (bX6_doubt 66) rfl rfl rfl rfl ⟨rfl, rfl, rfl⟩ ⟨by decide, by decide⟩ ⟨Nat.zero_le _, Nat.zero_le _⟩ (hX6_isStyleOrFree _ _) ?_
  rintro _ _ ⟨rfl, ⟨hx, rfl⟩ | ⟨hx, rfl⟩⟩
  · iterate 1 (refine zv_step (bX6_doubt 66) rfl rfl trivial ?_)
    refine zv_iff (by decide) ?_
    iterate 4 (refine zv_step (bX6_doubt 66) rfl rfl trivial ?_)
    refine zv_ifb (fun h1 => ?_) (fun h1 => ?_)
    · iterate 1 (refine zv_step (bX6_doubt 66) rfl rfl trivial ?_)
      exact zv_iret (bX6_doubt 66) rfl (Or.inl rfl) (Nat.zero_le _) (Nat.zero_le _) ⟨O, P, Y, _, rfl, rfl, hY, fun _ _ _ _ _ => rfl, fun _ _ => rfl⟩
    · iterate 4 (refine zv_step (bX6_doubt 66) rfl rfl trivial ?_)
      refine zv_ifb (fun h2 => ?_) (fun h2 => ?_)
      · iterate 2 (refine zv_step (bX6_doubt 66) rfl rfl trivial ?_)
        refine zv_V1 (bX6_doubt 66) rfl rfl rfl rfl rfl rfl rfl ⟨rfl, rfl, rfl⟩ ⟨by decide, by decide⟩ ⟨Nat.zero_le _, Nat.zero_le _⟩ (cTallyIn O P Y g hl hO hx) ?_
        rintro _ _ ⟨a, b, Y1, v, rfl, rfl, hw⟩
        iterate 5 (refine zv_step (bX6_doubt 66) rfl rfl trivial ?_)
        refine zv_ifb (fun h3 => ?_) (fun h3 => ?_)
        · iterate 1 (refine zv_step (bX6_doubt 66) rfl rfl trivial ?_)
          exact zv_iret (bX6_doubt 66) rfl (Or.inl rfl) (Nat.zero_le _) (Nat.zero_le _) ⟨_, P, Y1, _, rfl, rfl, hw hY, fun j b2 b3 b4 b5 => upd_3 O a b (O 0) b3 b4 b5, fun _ _ => rfl⟩
        · iterate 4 (refine zv_step (bX6_doubt 66) rfl rfl trivial ?_)
          refine zv_ifb (fun h4 => ?_) (fun h4 => ?_)
          · iterate 4 (refine zv_step (bX6_doubt 66) rfl rfl trivial ?_)
            refine zv_ifb (fun h5 => ?_) (fun h5 => ?_)
            · iterate 9 (refine zv_step (bX6_doubt 66) rfl rfl trivial ?_)
              refine zv_V2 (bX6_doubt 66) rfl rfl rfl rfl rfl rfl rfl ⟨rfl, rfl, rfl⟩ ⟨by decide, by decide⟩ ⟨Nat.zero_le _, Nat.zero_le _⟩ (hBuild14 (upd (upd (upd O 10 a) 11 b) 12 (O 0)) Y1 g (hw hY) (u := 0) (P := P) (by omega) (fun n hn => absurd hn (by omega)) hl hO _) ?_
              rintro _ _ ⟨u1, P1, R1, rfl, rfl, q1, q2, q3⟩
              iterate 6 (refine zv_step (bX6_doubt 66) rfl rfl trivial ?_)
              refine zv_V2 (bX6_doubt 66) rfl rfl rfl rfl rfl rfl rfl ⟨rfl, rfl, rfl⟩ ⟨by decide, by decide⟩ ⟨Nat.zero_le _, Nat.zero_le _⟩ (hBuild14 (upd (upd (upd O 10 a) 11 b) 12 (O 0)) Y1 g (hw hY) q1.2.1 q1.2.2.1 hl hO _) ?_
              rintro _ _ ⟨u2, P2, R2, rfl, rfl, p1, p2, p3⟩
              iterate 5 (refine zv_step (bX6_doubt 66) rfl rfl trivial ?_)
              refine zv_V2 (bX6_doubt 66) rfl rfl rfl rfl rfl rfl rfl ⟨rfl, rfl, rfl⟩ ⟨by decide, by decide⟩ ⟨Nat.zero_le _, Nat.zero_le _⟩ (pUnlike (upd (upd (upd (upd O 10 a) 11 b) 12 (O 0)) 2 (nI u2)) P2 Y1 g (show (nI u2).toInt ≤ 120 by have := p1.2.1; rw [nI_toInt (by omega)]; omega) _ _) ?_
              rintro _ _ ⟨rfl, v3, rfl⟩
              exact zv_iret (bX6_doubt 66) rfl (Or.inl rfl) (Nat.zero_le _) (Nat.zero_le _) ⟨_, P2, Y1, _, rfl, rfl, hw hY, fun j b2 b3 b4 b5 => (upd_ne _ _ b2).trans (upd_3 O a b (O 0) b3 b4 b5), (fun i hi => (p1.2.2.2.2 i hi).trans (q1.2.2.2.2 i hi))⟩
            · iterate 1 (refine zv_step (bX6_doubt 66) rfl rfl trivial ?_)
              exact zv_iret (bX6_doubt 66) rfl (Or.inl rfl) (Nat.zero_le _) (Nat.zero_le _) ⟨_, P, Y1, _, rfl, rfl, hw hY, fun j b2 b3 b4 b5 => upd_3 O a b (O 0) b3 b4 b5, fun _ _ => rfl⟩
          · iterate 1 (refine zv_step (bX6_doubt 66) rfl rfl trivial ?_)
            exact zv_iret (bX6_doubt 66) rfl (Or.inl rfl) (Nat.zero_le _) (Nat.zero_le _) ⟨_, P, Y1, _, rfl, rfl, hw hY, fun j b2 b3 b4 b5 => upd_3 O a b (O 0) b3 b4 b5, fun _ _ => rfl⟩
      · iterate 1 (refine zv_step (bX6_doubt 66) rfl rfl trivial ?_)
        exact zv_iret (bX6_doubt 66) rfl (Or.inl rfl) (Nat.zero_le _) (Nat.zero_le _) ⟨O, P, Y, _, rfl, rfl, hY, fun _ _ _ _ _ => rfl, fun _ _ => rfl⟩
  · iterate 1 (refine zv_step (bX6_doubt 66) rfl rfl trivial ?_)
    refine zv_ift (by decide) ?_
    iterate 1 (refine zv_step (bX6_doubt 66) rfl rfl trivial ?_)
    exact zv_iret (bX6_doubt 66) rfl (Or.inl rfl) (Nat.zero_le _) (Nat.zero_le _) ⟨O, P, Y, _, rfl, rfl, hY, fun _ _ _ _ _ => rfl, fun _ _ => rfl⟩

set_option maxHeartbeats 1000000 in
set_option maxRecDepth 20000 in
theorem mDoubtT (f : Nat → zC) (o : Nat → Int32) (A : Nat → Nat → Int32) (J : Nat → Nat → Int64) {u : Nat} (hu : u ≤ 120) (ho : o 0 = nI u) (hT : tbI 0 u A) {h : Nat} (hh : h ≤ 20) (hw : nnW h (A 8)) (ho10 : o 10 = nI h) (x : Int32) (z1 z2 : Int64) : zK 60 zX7_doubt [.ref 76, .int x, .long z1, .long z2] (wR f o A J) (fun r w' => ∃ (o' : Nat → Int32) (A' : Nat → Nat → Int32) (J' : Nat → Nat → Int64) (R : Int32), r = some (.int R) ∧ w' = wR f o' A' J' ∧ dbM o u A o' A') := by
  refine zK_of qX7_doubt (by decide +kernel) rfl ?_
  iterate 4 (refine zv_step (bX7_doubt 60) rfl rfl trivial ?_)
  refine zv_S3 (bX7_doubt 60) rfl rfl rfl rfl ⟨rfl, rfl, rfl⟩ ⟨by decide, by decide⟩ ⟨Nat.zero_le _, Nat.zero_le _⟩ (mIn _ _ _ _ (a := 0) (b := 8) (by decide) (by decide)) ?_
  rintro _ _ ⟨rfl, ⟨g1, rfl⟩ | ⟨g1, rfl⟩⟩
  · obtain ⟨s, hs, rfl⟩ := in_nat (x := x) (b := 8) (by decide) g1
    iterate 1 (refine zv_step (bX7_doubt 60) rfl rfl trivial ?_)
    refine zv_iff (by decide) ?_
    iterate 4 (refine zv_step (bX7_doubt 60) rfl rfl trivial ?_)
    refine zv_ifb (fun h15 => ?_) (fun h15 => ?_)
    · iterate 1 (refine zv_step (bX7_doubt 60) rfl rfl trivial ?_)
      exact zv_iret (bX7_doubt 60) rfl (Or.inl rfl) (Nat.zero_le _) (Nat.zero_le _) ⟨o, A, J, _, rfl, rfl, ⟨ho, hT⟩, fun _ _ _ _ => rfl, fun _ _ => rfl, fun _ _ _ => rfl⟩
    · have z10 : 0 ≤ z1.toInt := by
        rw [lg_cmp_lt, Int64.lt_iff_toInt_lt] at h15
        exact Int.not_lt.mp h15
      iterate 4 (refine zv_step (bX7_doubt 60) rfl rfl trivial ?_)
      refine zv_ifb (fun h22 => ?_) (fun h22 => ?_)
      · have z20 : 0 ≤ z2.toInt := by
          rw [lg_cmp_ge, Int64.le_iff_toInt_le] at h22
          exact h22
        iterate 4 (refine zv_step (bX7_doubt 60) rfl rfl trivial ?_)
        refine zv_ifb (fun h31 => ?_) (fun h31 => ?_)
        · iterate 3 (refine zv_step (bX7_doubt 60) rfl rfl trivial ?_)
          refine zv_V1 (bX7_doubt 60) rfl rfl rfl rfl rfl rfl rfl ⟨rfl, rfl, rfl⟩ ⟨by decide, by decide⟩ ⟨Nat.zero_le _, Nat.zero_le _⟩ (mCounted f o A J hh hw ho10 hs rfl) ?_
          rintro _ _ ⟨J2, rfl, rfl, hJ2⟩
          refine zv_world (show _ = wR f (upd o 28 (nI s)) A J2 from rfl) ?_
          iterate 2 (refine zv_step (bX7_doubt 60) rfl rfl trivial ?_)
          refine zv_ifb (fun h54 => ?_) (fun h54 => ?_)
          · iterate 1 (refine zv_step (bX7_doubt 60) rfl rfl trivial ?_)
            exact zv_iret (bX7_doubt 60) rfl (Or.inl rfl) (Nat.zero_le _) (Nat.zero_le _) ⟨(upd o 28 (nI s)), A, J2, _, rfl, rfl, ⟨ho, hT⟩, fun j a b c => upd_ne _ _ b, fun _ _ => rfl, fun _ _ _ => rfl⟩
          · iterate 3 (refine zv_step (bX7_doubt 60) rfl rfl trivial ?_)
            refine zv_V1 (bX7_doubt 60) rfl rfl rfl rfl rfl rfl rfl ⟨rfl, rfl, rfl⟩ ⟨by decide, by decide⟩ ⟨Nat.zero_le _, Nat.zero_le _⟩ (mCounted f (upd o 28 (nI s)) A J2 hh hw ho10 hs rfl) ?_
            rintro _ _ ⟨J3, rfl, rfl, hJ3⟩
            refine zv_world (show _ = wR f (upd o 28 (nI s)) A J3 from rfl) ?_
            iterate 2 (refine zv_step (bX7_doubt 60) rfl rfl trivial ?_)
            refine zv_ifb (fun h65 => ?_) (fun h65 => ?_)
            · obtain ⟨p1, hp1, rfl⟩ := l_nat z10 (ctW_le hJ3) (by rw [← ctW_u hJ2 hJ3]; exact Int64.not_le.mp (fun e => h54 ((lg_cmp_ge _ _).mpr e)))
              obtain ⟨p2, hp2, rfl⟩ := l_nat z20 (ctW_le hJ3) ((lg_cmp_lt _ _).mp h65)
              obtain ⟨h0, hp1⟩ := ctW_lt hp1
              obtain ⟨_, hp2⟩ := ctW_lt hp2
              iterate 3 (refine zv_step (bX7_doubt 60) rfl rfl trivial ?_)
              refine zv_world (show _ = wR f (upd (upd o 28 (nI s)) 29 (nI 0)) A J3 from rfl) ?_
              iterate 5 (refine zv_step (bX7_doubt 60) rfl rfl trivial ?_)
              refine zv_V3 (bX7_doubt 60) rfl rfl rfl rfl rfl rfl rfl ⟨rfl, rfl, rfl⟩ ⟨by show 2 * h + 3 + 1 ≤ 60; omega, by show 8 + (12 + 11) + 64 * (2 * h + 3) ≤ 64 * 60; omega⟩ ⟨Nat.zero_le _, Nat.zero_le _⟩ (mTakes f (upd o 28 (nI s)) A J3 hh hw hJ3 h 0 h p1 _ _ _ rfl ho10 rfl h0 (Nat.le_refl _) (by omega) hp1 0 A (fun _ _ => rfl) (fun n h1 h2 => absurd h2 (by omega)) (by omega)) ?_
              rintro _ _ ⟨q1, A1, rfl, rfl, k1, r1⟩
              iterate 6 (refine zv_step (bX7_doubt 60) rfl rfl trivial ?_)
              refine zv_V3 (bX7_doubt 60) rfl rfl rfl rfl rfl rfl rfl ⟨rfl, rfl, rfl⟩ ⟨by show 2 * h + 3 + 1 ≤ 60; omega, by show 8 + (12 + 11) + 64 * (2 * h + 3) ≤ 64 * 60; omega⟩ ⟨Nat.zero_le _, Nat.zero_le _⟩ (mTakes f (upd o 28 (nI s)) A J3 hh hw hJ3 h 0 h p2 _ _ _ rfl ho10 rfl h0 (Nat.le_refl _) (by omega) hp2 (q1 + 1) A1 k1.1 k1.2.1 (by have := k1.2.2.2.2.1; omega)) ?_
              rintro _ _ ⟨q2, A2, rfl, rfl, k2, r2⟩
              iterate 5 (refine zv_step (bX7_doubt 60) rfl rfl trivial ?_)
              have l1 := k1.2.2.2.2.1
              have l2 := k2.2.2.2.2.1
              have m1 := k1.2.2.2.1
              have m2' := k2.2.2.2.1
              have hne : p1 ≠ p2 := fun e => h31 ((lg_cmp_eq _ _).mpr (by rw [e]))
              have hR1 : Rd (eW A) (mW A s (lW J3)) (lW J3) A2 h 0 h p1 (400 + q1) := Rd_fr h 0 h p1 (400 + q1) (by omega) (fun r _ x _ hx => k2.2.2.1 r x (by omega)) r1
              have hun : ¬ alk A2 40 (nI (400 + q1)) (nI (400 + q2)) := fun e => hne (Rd_inj h 0 h p1 p2 (400 + q1) (400 + q2) 40 (by omega) (by omega) hR1 r2 e)
              have hs1 : szN A2 (400 + q1) ≤ 40 := (rN_sz (k2.2.1 (400 + q1) (by omega) (by omega))).2.1
              refine zv_locals (l := [(9, .int (Int32.ofInt 1)), (8, .int (Int32.ofInt 0)), (7, .int (nI (400 + q2))), (6, .int (nI (400 + q1))), (0, .ref 76), (1, .int (nI s)), (2, .long (lN p1)), (4, .long (lN p2))]) (l' := [(9, .int (Int32.ofInt 1)), (8, .int (Int32.ofInt 0)), (7, .int (nI (400 + q2))), (6, .int (nI (400 + q1))), (0, .ref 76), (1, .int (nI s)), (2, .long (lN p1)), (4, .long (lN p2))]) (fun q h => h) (dbtL f _ A2 J3 (lo := 400) (hi := 400 + (q2 + 1)) (by omega) k2.2.1 (fun v => ⟨_, A2, J3, v, rfl, rfl, ⟨ho, tbI_fr hT (fun r _ i _ hi => (k2.2.2.1 r i (by omega)).trans (k1.2.2.1 r i (by omega)))⟩, fun j a b c => by rw [upd_ne _ _ c, upd_ne _ _ b], fun r hr => (k2.1 r hr).trans (k1.1 r hr), fun r i hi => (k2.2.2.1 r i (by omega)).trans (k1.2.2.1 r i (by omega))⟩) 40 (400 + q1) (400 + q2) (by decide) (by omega) (by omega) (by omega) (by omega) hs1 hun)
            · iterate 1 (refine zv_step (bX7_doubt 60) rfl rfl trivial ?_)
              exact zv_iret (bX7_doubt 60) rfl (Or.inl rfl) (Nat.zero_le _) (Nat.zero_le _) ⟨(upd o 28 (nI s)), A, J3, _, rfl, rfl, ⟨ho, hT⟩, fun j a b c => upd_ne _ _ b, fun _ _ => rfl, fun _ _ _ => rfl⟩
        · iterate 3 (refine zv_step (bX7_doubt 60) rfl rfl trivial ?_)
          refine zv_V1 (bX7_doubt 60) rfl rfl rfl rfl rfl rfl rfl ⟨rfl, rfl, rfl⟩ ⟨by decide, by decide⟩ ⟨Nat.zero_le _, Nat.zero_le _⟩ (mCounted f o A J hh hw ho10 hs rfl) ?_
          rintro _ _ ⟨J1, rfl, rfl, hJ1⟩
          iterate 2 (refine zv_step (bX7_doubt 60) rfl rfl trivial ?_)
          refine zv_ifb (fun h41 => ?_) (fun h41 => ?_)
          · iterate 3 (refine zv_step (bX7_doubt 60) rfl rfl trivial ?_)
            refine zv_V1 (bX7_doubt 60) rfl rfl rfl rfl rfl rfl rfl ⟨rfl, rfl, rfl⟩ ⟨by decide, by decide⟩ ⟨Nat.zero_le _, Nat.zero_le _⟩ (mCounted f (upd o 28 (nI s)) A J1 hh hw ho10 hs rfl) ?_
            rintro _ _ ⟨J2, rfl, rfl, hJ2⟩
            refine zv_world (show _ = wR f (upd o 28 (nI s)) A J2 from rfl) ?_
            iterate 2 (refine zv_step (bX7_doubt 60) rfl rfl trivial ?_)
            refine zv_ift (by rw [ctW_u hJ2 hJ1]; exact h41) ?_
            iterate 1 (refine zv_step (bX7_doubt 60) rfl rfl trivial ?_)
            exact zv_iret (bX7_doubt 60) rfl (Or.inl rfl) (Nat.zero_le _) (Nat.zero_le _) ⟨(upd o 28 (nI s)), A, J2, _, rfl, rfl, ⟨ho, hT⟩, fun j a b c => upd_ne _ _ b, fun _ _ => rfl, fun _ _ _ => rfl⟩
          · iterate 1 (refine zv_step (bX7_doubt 60) rfl rfl trivial ?_)
            exact zv_iret (bX7_doubt 60) rfl (Or.inl rfl) (Nat.zero_le _) (Nat.zero_le _) ⟨(upd o 28 (nI s)), A, J1, _, rfl, rfl, ⟨ho, hT⟩, fun j a b c => upd_ne _ _ b, fun _ _ => rfl, fun _ _ _ => rfl⟩
      · iterate 1 (refine zv_step (bX7_doubt 60) rfl rfl trivial ?_)
        exact zv_iret (bX7_doubt 60) rfl (Or.inl rfl) (Nat.zero_le _) (Nat.zero_le _) ⟨o, A, J, _, rfl, rfl, ⟨ho, hT⟩, fun _ _ _ _ => rfl, fun _ _ => rfl, fun _ _ _ => rfl⟩
  · skip
    iterate 1 (refine zv_step (bX7_doubt 60) rfl rfl trivial ?_)
    refine zv_ift (by decide) ?_
    iterate 1 (refine zv_step (bX7_doubt 60) rfl rfl trivial ?_)
    exact zv_iret (bX7_doubt 60) rfl (Or.inl rfl) (Nat.zero_le _) (Nat.zero_le _) ⟨o, A, J, _, rfl, rfl, ⟨ho, hT⟩, fun _ _ _ _ => rfl, fun _ _ => rfl, fun _ _ _ => rfl⟩
end
section
/-! the same state on both sides -/
def SS (u h : Nat) (O : Nat → Int32) (P : Nat → Nat → Int32) (o : Nat → Int32) (A : Nat → Nat → Int32) : Prop := O 1 = nI u ∧ o 0 = nI u ∧ NR u P A ∧ O 9 = nI h ∧ o 10 = nI h ∧ (∀ i, i < h → P 32 i = A 8 i) ∧ O 13 = o 30 ∧ (O 13 = 1 → P 56 0 = A 20 0) ∧ kp0 A
/-- what a call leaves as it was -/
def cE (O : Nat → Int32) (P : Nat → Nat → Int32) (O' : Nat → Int32) (P' : Nat → Nat → Int32) : Prop := O' 1 = O 1 ∧ O' 9 = O 9 ∧ O' 13 = O 13 ∧ (∀ i, 2 ≤ i → i ≤ 11 → P' i = P i) ∧ P' 32 = P 32 ∧ (O 13 = 1 → P' 56 0 = P 56 0)
def mE (u : Nat) (o : Nat → Int32) (A : Nat → Nat → Int32) (o' : Nat → Int32) (A' : Nat → Nat → Int32) : Prop := o' 0 = o 0 ∧ o' 10 = o 10 ∧ o' 30 = o 30 ∧ (∀ r i, r < 5 → i < u → A' r i = A r i) ∧ A' 8 = A 8 ∧ (o 30 = 1 → A' 20 0 = A 20 0) ∧ A' 7 = A 7
theorem cE_id (O : Nat → Int32) (P : Nat → Nat → Int32) : cE O P O P := ⟨rfl, rfl, rfl, fun _ _ _ => rfl, rfl, fun _ => rfl⟩
theorem mE_id (u : Nat) (o : Nat → Int32) (A : Nat → Nat → Int32) : mE u o A o A := ⟨rfl, rfl, rfl, fun _ _ _ _ => rfl, rfl, fun _ => rfl, rfl⟩
theorem SS_fr {u h : Nat} {O O' : Nat → Int32} {P P' : Nat → Nat → Int32} {o o' : Nat → Int32} {A A' : Nat → Nat → Int32} (hu : u ≤ 120) (s : SS u h O P o A) (c : cE O P O' P') (m : mE u o A o' A') : SS u h O' P' o' A' := by
  obtain ⟨s1, s2, s3, s4, s5, s6, s7, s8, s9⟩ := s
  obtain ⟨c1, c2, c3, c4, c5, c6⟩ := c
  obtain ⟨m1', m2', m3, m4, m5, m6, m7⟩ := m
  refine ⟨c1.trans s1, m1'.trans s2, NR_fr hu s3 (fun i h1 h2 _ j _ => by rw [c4 i h1 h2]) (fun r hr j hj => m4 r j hr hj), c2.trans s4, m2'.trans s5, fun i hi => by rw [c5, m5]; exact s6 i hi, by rw [c3, m3]; exact s7, fun e => ?_, kp0_r s9 m7⟩
  rw [c3] at e
  rw [c6 e, m6 (by rw [← s7]; exact e)]
  exact s8 e
/-- NODES come to both, or go -/
theorem SS_page {u u' h : Nat} {O : Nat → Int32} {P P' : Nat → Nat → Int32} {o : Nat → Int32} {A A' : Nat → Nat → Int32} (s : SS u h O P o A) (n : NR u' P' A') (c : ∀ i, ¬ (1 < i ∧ i ≤ 13) → P' i = P i) (m : ∀ r, 6 ≤ r → A' r = A r) : SS u' h (upd O 1 (nI u')) P' (upd o 0 (nI u')) A' := by
  obtain ⟨s1, s2, s3, s4, s5, s6, s7, s8, s9⟩ := s
  exact ⟨upd_self _ _ _, upd_self _ _ _, n, s4, s5, fun i hi => by rw [c 32 (by omega), m 8 (by decide)]; exact s6 i hi, s7, fun e => by rw [c 56 (by omega), m 20 (by decide)]; exact s8 e, kp0_r s9 (m 7 (by decide))⟩
/-- THE EAR of both -/
theorem SS_ear {u h h' : Nat} {O O' : Nat → Int32} {P P' : Nat → Nat → Int32} {o o' : Nat → Int32} {A A' : Nat → Nat → Int32} (hu : u ≤ 120) (s : SS u h O P o A) (c1 : O' 1 = O 1) (c3 : O' 13 = O 13) (c4 : ∀ i, 2 ≤ i → i ≤ 11 → P' i = P i) (c5 : P' 56 = P 56) (m1 : o' 0 = o 0) (m3 : o' 30 = o 30) (m4 : ∀ r, r < 5 → A' r = A r) (m5 : A' 20 = A 20) (m6 : A' 7 = A 7) (e9 : O' 9 = nI h') (e10 : o' 10 = nI h') (e : ∀ i, i < h' → P' 32 i = A' 8 i) : SS u h' O' P' o' A' := by
  obtain ⟨s1, s2, s3, s4, s5, s6, s7, s8, s9⟩ := s
  refine ⟨c1.trans s1, m1.trans s2, NR_fr hu s3 (fun i h1 h2 _ j _ => by rw [c4 i h1 h2]) (fun r hr j hj => by rw [m4 r hr]), e9, e10, e, by rw [c3, m3]; exact s7, fun w => ?_, kp0_r s9 m6⟩
  rw [c3] at w
  rw [c5, m5]
  exact s8 w
theorem cvI_pos {x : Int32} (h : 0 ≤ x.toInt) : cvI x = x := if_neg (fun e => by
  rw [e] at h
  exact absurd h (by decide))
theorem leaf_NR {u : Nat} (hu : u < 120) {P A : Nat → Nat → Int32} (n : NR u P A) {k v sh : Int32} (g : lfG k v) : NR (u + 1) (stC 1 P u k v m1 m1 sh) (setsA A u k v m2 m2) := by
  have hv : 0 ≤ v.toInt := by
    rcases g with g | g <;> exact g.2.1
  have := NR_st (k := k) (v := v) (x := m2) (y := m2) (sh := sh) hu n (Or.inl rfl) (Or.inl rfl)
  rwa [cvI_m2, cvI_pos hv] at this
theorem isN_n {u : Nat} {x : Int32} (hu : u ≤ 120) (h : isN u x) : ∃ a, a < u ∧ x = nI a := ⟨x.toInt.toNat, by have := h.1; have := h.2; omega, by
  have h1 := h.1
  have h2 := h.2
  rw [← Int32.toInt_inj, nI_toInt (by omega)]
  omega⟩
theorem node_NR {u : Nat} (hu : u < 120) {P A : Nat → Nat → Int32} (n : NR u P A) {k x y sh : Int32} (g : ndG u k x y) : NR (u + 1) (stC 1 P u k (ndv m1 k y) x (ndy m1 k y) sh) (setsA A u k (ndv m2 k y) x (ndy m2 k y)) := by
  obtain ⟨a, ha, ex⟩ := isN_n (by omega) (show isN u x from g.2.1)
  have hy : ndy m2 k y = m2 ∨ ∃ a, a < u ∧ ndy m2 k y = nI a := by
    unfold ndy
    split
    · rename_i q
      obtain ⟨b, hb, ey⟩ := isN_n (by omega) (show isN u y from g.2.2.1 q)
      exact Or.inr ⟨b, hb, ey⟩
    · exact Or.inl rfl
  have := NR_st (k := k) (v := ndv m2 k y) (x := x) (y := ndy m2 k y) (sh := sh) hu n (Or.inr ⟨a, ha, ex⟩) hy
  have e1 : cvI (ndv m2 k y) = ndv m1 k y := by
    unfold ndv
    split
    · rename_i q
      exact cvI_pos (g.2.2.2 q).1
    · exact cvI_m2
  have e2 : cvI x = x := cvI_pos g.2.1.1
  have e3 : cvI (ndy m2 k y) = ndy m1 k y := by
    unfold ndy
    split
    · rename_i q
      exact cvI_pos (g.2.2.1 q).1
    · exact cvI_m2
  rwa [e1, e2, e3] at this
/-- the same words heard on both sides -/
theorem has_eq {g g' : Nat → Int32} {ws : List Int32} (h : hasW g ws) (h' : hasW g' ws) : ∀ i, i < ws.length → g i = g' i := fun i hi => by
  have := List.getElem?_eq_getElem hi
  rw [h i _ this, h' i _ this]
theorem kp_hb {P A : Nat → Nat → Int32} (h : kpR P A) {s : Nat} (hs : s < 8) : ∀ k, k < 10 → (hbW (P 75 s) (nI k) = 0 ↔ A 7 (10 * s + k) = 0) := fun k hk => by
  obtain ⟨m, hm, e, hb⟩ := h s hs
  rw [e, hb_bt m hm k hk, hb k hk]
/-- a NODE is said in a style with the same words -/
theorem sy_same {u : Nat} (hu : u ≤ 120) {O : Nat → Int32} {P A : Nat → Nat → Int32} (h1 : O 1 = nI u) (hT : tbI 0 u A) (hN : NR u P A) (hk : kpR P A) {s n : Nat} (hs : s < 8) (hn : n < u) : syL O P s n = wdW A s 40 (nI n) := by
  obtain ⟨k, hk9, h0⟩ := rN_kd (hT n (Nat.zero_le _) hn)
  have := tl_wd hu hT hN (kp_hb hk hs) 40 (nI n) (pt_of hT (Nat.zero_le _) hn) (hbW (P 75 s) (P 2 n)) (by rw [kpI_n (by omega) hk9 h0, (hN n hn).1, h0]; exact kp_hb hk hs k hk9)
  rw [cvI_nI (by omega)] at this
  show tlW (O 1) (P 75 s) (Int32.ofInt 0) P 41 (nI n) (hbW (P 75 s) (P 2 n)) = _
  rw [h1]
  exact this
/-- listen -/
theorem listen_ok {u h : Nat} (hu : u ≤ 120) (hh : h ≤ 20) {O O' : Nat → Int32} {P P' : Nat → Nat → Int32} {o o' : Nat → Int32} {A A' : Nat → Nat → Int32} {x y R R' : Int32} (s : SS u h O P o A) (hT : tbI 0 u A) (hk : kpR P A) (c : spV O P O' P') (m : eX o A o' A') (g : clR O P u x y O' P' R) (g' : mlR o A u x y o' A' R') : R = R' ∧ ∃ h', h' ≤ 20 ∧ SS u h' O' P' o' A' := by
  have fr : ∀ h', O' 9 = nI h' → o' 10 = nI h' → (∀ i, i < h' → P' 32 i = A' 8 i) → SS u h' O' P' o' A' := fun h' e9 e10 e => SS_ear hu s (c.1 1 (by decide)) (c.1 13 (by decide)) (fun i h1 h2 => c.2 i (by omega) (by omega) (by omega)) (c.2 56 (by decide) (by decide) (by decide)) (m.2.1 0 (by decide) (by decide)) (m.2.1 30 (by decide) (by decide)) (fun r hr => m.2.2 r (by omega) (by omega) (by omega)) (m.2.2 20 (by decide) (by decide) (by decide)) (m.2.2 7 (by decide) (by decide) (by decide)) e9 e10 e
  have same : sameE O P O' P' → sameM o A o' A' → ∃ h', h' ≤ 20 ∧ SS u h' O' P' o' A' := fun a b => ⟨h, hh, fr h (a.1.trans s.2.2.2.1) (b.1.trans s.2.2.2.2.1) (fun i hi => by rw [a.2, b.2]; exact s.2.2.2.2.2.1 i hi)⟩
  rcases g with ⟨r, q, e⟩ | ⟨sy, n, hs, hn, ex, ey, g⟩
  · rcases g' with ⟨r', _, e'⟩ | ⟨s', n', hs', hn', ex', ey', _⟩
    · exact ⟨r.trans r'.symm, same e e'⟩
    · exact absurd ⟨by rw [ex', nI_toInt (by omega)]; omega, by rw [ey', nI_toInt (by omega)]; omega, by rw [ey', nI_toInt (by omega)]; omega⟩ q
  · rcases g' with ⟨_, q, _⟩ | ⟨s', n', hs', hn', ex', ey', g'⟩
    · exact absurd ⟨by rw [ex, nI_toInt (by omega)]; omega, by rw [ey, nI_toInt (by omega)]; omega, by rw [ey, nI_toInt (by omega)]; omega⟩ q
    · have e1 : sy = s' := (nI_eq (by omega) (by omega)).mp (ex.symm.trans ex')
      have e2 : n = n' := (nI_eq (by omega) (by omega)).mp (ey.symm.trans ey')
      subst e1 e2
      rw [sy_same hu s.1 hT s.2.2.1 hk hs hn] at g
      rcases g with ⟨r, q, e⟩ | ⟨q, g⟩
      · rcases g' with ⟨r', _, e'⟩ | ⟨q', _⟩
        · exact ⟨r.trans r'.symm, same e e'⟩
        · omega
      · rcases g' with ⟨_, q', _⟩ | ⟨_, g'⟩
        · omega
        · rcases g with ⟨w, r, e⟩ | ⟨w, r, e9, hp⟩
          · rcases g' with ⟨_, r', e'⟩ | ⟨w', _⟩
            · exact ⟨r.trans r'.symm, same e e'⟩
            · omega
          · rcases g' with ⟨w', _⟩ | ⟨_, r', e10, hm⟩
            · omega
            · exact ⟨r.trans r'.symm, _, w, fr _ e9 e10 (has_eq hp hm)⟩
/-- fewest -/
theorem fewest_ok {u h : Nat} (hu : u ≤ 120) (hh : h ≤ 20) {O O' : Nat → Int32} {P P' : Nat → Nat → Int32} {o o' : Nat → Int32} {A A' : Nat → Nat → Int32} {x R R' : Int32} (s : SS u h O P o A) (hT : tbI 0 u A) (hf : fnR O A) (c : spV O P O' P') (m : fwX o A o' A') (g : cfR O P u x O' P' R) (g' : fwR A u h x o' A' R' (o' = o ∧ A' = A)) : R = R' ∧ ∃ h', h' ≤ 20 ∧ SS u h' O' P' o' A' := by
  obtain ⟨fm, hm, e0, hb⟩ := hf
  have fr : ∀ h', O' 9 = nI h' → o' 10 = nI h' → (∀ i, i < h' → P' 32 i = A' 8 i) → SS u h' O' P' o' A' := fun h' e9 e10 e => SS_ear hu s (c.1 1 (by decide)) (c.1 13 (by decide)) (fun i h1 h2 => c.2 i (by omega) (by omega) (by omega)) (c.2 56 (by decide) (by decide) (by decide)) (m.2.1 0 (by decide) (by decide) (by decide)) (m.2.1 30 (by decide) (by decide) (by decide)) (fun r hr => m.2.2 r (by omega) (by omega) (by omega)) (m.2.2 20 (by decide) (by decide) (by decide)) (m.2.2 7 (by decide) (by decide) (by decide)) e9 e10 e
  have same : sameE O P O' P' → (o' = o ∧ A' = A) → ∃ h', h' ≤ 20 ∧ SS u h' O' P' o' A' := fun a b => ⟨h, hh, fr h (a.1.trans s.2.2.2.1) (by rw [b.1]; exact s.2.2.2.2.1) (fun i hi => by rw [a.2, b.2]; exact s.2.2.2.2.2.1 i hi)⟩
  rcases g with ⟨r, q, e⟩ | ⟨n, hn, ex, g⟩
  · rcases g' with ⟨r', _, e'⟩ | ⟨n', hn', ex', _⟩
    · exact ⟨r.trans r'.symm, same e e'⟩
    · exact absurd ⟨by rw [ex', nI_toInt (by omega)]; omega, by rw [ex', nI_toInt (by omega)]; omega⟩ q
  · rcases g' with ⟨_, q, _⟩ | ⟨n', hn', ex', g'⟩
    · exact absurd ⟨by rw [ex, nI_toInt (by omega)]; omega, by rw [ex, nI_toInt (by omega)]; omega⟩ q
    · have e2 : n = n' := (nI_eq (by omega) (by omega)).mp (ex.symm.trans ex')
      subst e2
      have hp := pt_of hT (Nat.zero_le _) hn
      have rt := rt_bits hu hT s.2.2.1 hm hb 40 (nI n) hp
      rw [cvI_nI (by omega), pvI_nI _ (by omega), pvI_nI _ (by omega), ← e0] at rt
      have kb := ch_kb hu hT s.2.2.1 40 (nI n) hp
      rw [cvI_nI (by omega), pvI_nI _ (by omega)] at kb
      have kl := kbW_le (by omega) hT 40 n hn (rN_sz (hT n (Nat.zero_le _) hn)).2.1
      have sz := (rN_sz (hT n (Nat.zero_le _) hn)).2.1
      have k8 : P 9 n ≤ c8 8 ↔ kbW A 40 (nI n) ≤ 8 := by
        rw [kb]
        exact nI_leI (b := 8) (by omega) (by decide)
      rw [rt, k8] at g
      rcases g with ⟨r, q, e⟩ | ⟨q, g⟩
      · rcases g' with ⟨r', _, e'⟩ | ⟨q', _⟩
        · exact ⟨r.trans r'.symm, same e e'⟩
        · exact absurd q' q
      · rcases g' with ⟨_, q', _⟩ | ⟨_, g'⟩
        · exact absurd q q'
        · rcases g with ⟨r, w, e⟩ | ⟨w, g⟩
          · rcases g' with ⟨r', _, e'⟩ | ⟨w', _⟩
            · exact ⟨r.trans r'.symm, same e e'⟩
            · exact absurd w' w
          · rcases g' with ⟨_, w', _⟩ | ⟨_, g'⟩
            · omega
            · have f := few_same hu hT s.2.2.1 hn w (kk := O 4) g'
              have eL : spL O P n = tlW (nI u) (O 4) (Int32.ofInt 1) P 41 (nI n) (Int32.ofInt 0) := by
                show tlW (O 1) (O 4) (Int32.ofInt 1) P 41 (nI n) (Int32.ofInt 0) = _
                rw [s.1]
              rw [eL] at g
              rcases g with ⟨v, r, e⟩ | ⟨v, r, e9, hp9⟩
              · rcases f with ⟨v', _⟩ | ⟨_, r', e10, e8⟩
                · omega
                · exact ⟨r.trans r'.symm, h, hh, fr h (e.1.trans s.2.2.2.1) e10 (fun i hi => by rw [e.2, e8 i hi]; exact s.2.2.2.2.2.1 i hi)⟩
              · rcases f with ⟨_, r', e10, h8⟩ | ⟨v', _⟩
                · exact ⟨r.trans r'.symm, _, v, fr _ e9 e10 (has_eq hp9 h8)⟩
                · omega
end
section
/-! hear, hush, leaf, node, undo, walk: the same state again -/
theorem SS_lv {u u' h : Nat} {O : Nat → Int32} {P : Nat → Nat → Int32} {o : Nat → Int32} {A : Nat → Nat → Int32} (s : SS u h O P o A) (hu : u' ≤ u) : SS u' h (upd O 1 (nI u')) P (upd o 0 (nI u')) A := SS_page s (NR_le s.2.2.1 hu) (fun _ _ => rfl) (fun _ _ => rfl)
/-- hush -/
theorem hush_ok {u h : Nat} (hu : u ≤ 120) {O : Nat → Int32} {P : Nat → Nat → Int32} {o : Nat → Int32} {A : Nat → Nat → Int32} (s : SS u h O P o A) : O 9 = o 10 ∧ SS u 0 (upd O 9 (Int32.ofInt 0)) P (upd o 10 (Int32.ofInt 0)) A :=
  ⟨s.2.2.2.1.trans s.2.2.2.2.1.symm, SS_ear hu s rfl rfl (fun _ _ _ => rfl) rfl rfl rfl (fun _ _ => rfl) rfl rfl rfl rfl (fun i hi => absurd hi (Nat.not_lt_zero i))⟩
theorem hear_st {u h n : Nat} (hu : u ≤ 120) {O : Nat → Int32} {P : Nat → Nat → Int32} {o : Nat → Int32} {A : Nat → Nat → Int32} (s : SS u h O P o A) (y : Int32) : SS u (h + n) (upd O 9 (nI (h + n))) (updA P 32 (heL y n (P 32) h)) (upd o 10 (nI (h + n))) (updA A 8 (heL y n (A 8) h)) :=
  SS_ear hu s rfl rfl (fun i h1 h2 => updA_ne _ _ (by omega)) rfl rfl rfl (fun r hr => updA_ne _ _ (by omega)) rfl rfl rfl rfl (fun i hi => by
    rw [updA_self, updA_self]
    exact heL_e y n _ _ h s.2.2.2.2.2.1 i hi)
theorem stC_ne1 (P : Nat → Nat → Int32) (u : Nat) (k v x y sh : Int32) {i : Nat} (h : ¬ (1 < i ∧ i ≤ 13)) : stC 1 P u k v x y sh i = P i := stC_o (by omega)
theorem sets_ne6 (A : Nat → Nat → Int32) (u : Nat) (k v x y : Int32) {r : Nat} (h : 6 ≤ r) : setsA A u k v x y r = A r := by
  show updA _ 5 _ r = _
  rw [updA_ne _ _ (by omega), updA_ne _ _ (by omega), updA_ne _ _ (by omega), updA_ne _ _ (by omega), updA_ne _ _ (by omega), updA_ne _ _ (by omega)]
/-- leaf -/
theorem leaf_ok {u h : Nat} (hu : u < 120) {O : Nat → Int32} {P : Nat → Nat → Int32} {o : Nat → Int32} {A : Nat → Nat → Int32} (s : SS u h O P o A) {k v : Int32} (sh : Int32) (g : lfG k v) : SS (u + 1) h (upd O 1 (nI (u + 1))) (stC 1 P u k v m1 m1 sh) (upd o 0 (nI (u + 1))) (setsA A u k v m2 m2) :=
  SS_page s (leaf_NR hu s.2.2.1 g) (fun _ q => stC_ne1 _ _ _ _ _ _ _ q) (fun _ q => sets_ne6 _ _ _ _ _ _ q)
theorem node_ok {u h : Nat} (hu : u < 120) {O : Nat → Int32} {P : Nat → Nat → Int32} {o : Nat → Int32} {A : Nat → Nat → Int32} (s : SS u h O P o A) {k x y : Int32} (sh : Int32) (g : ndG u k x y) : SS (u + 1) h (upd O 1 (nI (u + 1))) (stC 1 P u k (ndv m1 k y) x (ndy m1 k y) sh) (upd o 0 (nI (u + 1))) (setsA A u k (ndv m2 k y) x (ndy m2 k y)) :=
  SS_page s (node_NR hu s.2.2.1 g) (fun _ q => stC_ne1 _ _ _ _ _ _ _ q) (fun _ q => sets_ne6 _ _ _ _ _ _ q)
theorem nd_at {u : Nat} (hu : u ≤ 120) {P A : Nat → Nat → Int32} (n : NR u P A) {x : Int32} (h : isN u x) : P 6 x.toNatClampNeg = A 4 x.toNatClampNeg := by
  obtain ⟨a, ha, e⟩ := isN_n hu h
  have : x.toNatClampNeg = a := by
    show x.toInt.toNat = a
    rw [e, nI_toInt (by omega)]
    omega
  rw [this]
  exact (n a ha).2.2.2.2.1
theorem ndS_same {u : Nat} (hu : u ≤ 120) {P A : Nat → Nat → Int32} (n : NR u P A) {k x y : Int32} (g : ndG u k x y) : ndS (P 6) k x y = ndS (A 4) k x y := by
  unfold ndS
  rw [nd_at hu n g.2.1]
  split
  · rename_i q
    rw [nd_at hu n (g.2.2.1 q)]
  · rfl
/-- undo -/
theorem undo_same {u h : Nat} {O : Nat → Int32} {P : Nat → Nat → Int32} {o : Nat → Int32} {A : Nat → Nat → Int32} (s : SS u h O P o A) : (O 13 = 1 ∧ P 56 0 = nI (u - 1)) ↔ (o 30 = 1 ∧ A 20 0 = nI (u - 1)) := by
  have e := s.2.2.2.2.2.2.1
  have f := s.2.2.2.2.2.2.2.1
  constructor
  · rintro ⟨a, b⟩
    exact ⟨by rw [← e]; exact a, by rw [← f a]; exact b⟩
  · rintro ⟨a, b⟩
    have a' : O 13 = 1 := by rw [e]; exact a
    exact ⟨a', by rw [f a']; exact b⟩
/-- walk -/
theorem walk_ok {u h : Nat} (hu : u ≤ 120) {O : Nat → Int32} {P : Nat → Nat → Int32} {o : Nat → Int32} {A : Nat → Nat → Int32} (s : SS u h O P o A) (x : Int32) : SS u h (upd (upd O 13 (Int32.ofInt 1)) 14 (Int32.ofInt 0)) (updA P 56 (upd (P 56) 0 x)) (upd (upd o 30 (Int32.ofInt 1)) 33 (Int32.ofInt 0)) (updA A 20 (upd (A 20) 0 x)) := by
  obtain ⟨s1, s2, s3, s4, s5, s6, s7, s8, s9⟩ := s
  refine ⟨s1, s2, NR_fr hu s3 (fun i h1 h2 _ j _ => by rw [updA_ne _ _ (by omega)]) (fun r hr j hj => by rw [updA_ne _ _ (by omega)]), s4, s5, s6, rfl, fun _ => ?_, kp0_r s9 rfl⟩
  rw [updA_self, updA_self, upd_self, upd_self]
end
section
/-! write, keeps, means: the same state again -/
theorem ea_of {u h : Nat} {O : Nat → Int32} {P : Nat → Nat → Int32} {o : Nat → Int32} {A : Nat → Nat → Int32} (s : SS u h O P o A) (hw : nnW h (A 8)) : eaR h P (eW A) := fun i hi => by
  rw [s.2.2.2.2.2.1 i hi]
  exact eW_of hw hi
theorem gf_of {O : Nat → Int32} {A : Nat → Nat → Int32} (h : fnR O A) : gfR (O 0) (A 6) := fun v hv => by
  obtain ⟨m, hm, e, hb⟩ := h
  rw [e, hb_bt m hm v hv, hb v hv]
theorem bt_1 (m k : Nat) : decide (bt m k = nI 1) = m.testBit k := by
  unfold bt
  cases m.testBit k <;> decide
theorem bt_0 (m k : Nat) : decide (bt m k = nI 0) = !m.testBit k := by
  unfold bt
  cases m.testBit k <;> decide
theorem sy_of {P A : Nat → Nat → Int32} (h : kpR P A) : ∀ s, s ≤ 8 → syR P s (ltW A s) := fun s hs => by
  unfold syR
  split
  · rename_i e
    intro k _
    rw [ltW_8 e, ltW_8 e]
    exact ⟨rfl, rfl⟩
  · rename_i e
    obtain ⟨m, hm, q, hb⟩ := h s (by omega)
    refine ⟨m, hm, q, fun k hk => ?_⟩
    rw [ltW_n e, ltW_n e, hb k hk]
    exact ⟨bt_1 m k, bt_0 m k⟩
/-- both tables count the same -/
theorem L_same {h : Nat} (hh : h ≤ 20) {A : Nat → Nat → Int32} {s : Nat} {Y Y1 J1 : Nat → Nat → Int64} (z : okZ Y h (eW A) (A 6) (ltW A s) Y1 (h + 1) 0) (j : okJ h A s J1) : ∀ a b, a < b → b ≤ h → lY Y1 a b = lW J1 a b := fun a b h1 h2 => by
  have eJ : ∀ i j, i < j → j ≤ h → lW J1 i j = csW (mG (eW A) (A 6) (ltW A s) (lW J1) i j) 20 := fun i k q1 q2 => (okS_l (j i k q1 q2)).1
  exact L_uq (E := eW A) (G := A 6) (lt := ltW A s) (h := h) (fun i k q1 q2 => (z.1 i k q1 q2 (Or.inl (by omega))).2.1) (fun i k q1 q2 => (L_le hh eJ (k - i) i k q1 q2 (Nat.le_refl _)).2) (b - a) a b h1 h2 (Nat.le_refl _)
theorem ct_same {h : Nat} (hh : h ≤ 20) {A : Nat → Nat → Int32} {s : Nat} {Y Y1 J1 : Nat → Nat → Int64} (z : okZ Y h (eW A) (A 6) (ltW A s) Y1 (h + 1) 0) (j : okJ h A s J1) : ctY h Y1 = ctW h J1 := by
  unfold ctY ctW
  split
  · rfl
  · exact L_same hh z j 0 h (by omega) (Nat.le_refl _)
/-- NODES, where other fields and tables may have changed -/
theorem SS_pg {u u' h : Nat} {O O' : Nat → Int32} {P P' : Nat → Nat → Int32} {o o' : Nat → Int32} {A A' : Nat → Nat → Int32} (s : SS u h O P o A) (n : NR u' P' A') (c1 : O' 1 = nI u') (c2 : O' 9 = O 9) (c3 : O' 13 = O 13) (c4 : P' 32 = P 32) (c5 : P' 56 = P 56) (m1' : o' 0 = nI u') (m2' : o' 10 = o 10) (m3 : o' 30 = o 30) (m : ∀ r, 6 ≤ r → A' r = A r) : SS u' h O' P' o' A' := by
  obtain ⟨s1, s2, s3, s4, s5, s6, s7, s8, s9⟩ := s
  exact ⟨c1, m1', n, c2.trans s4, m2'.trans s5, fun i hi => by rw [c4, m 8 (by decide)]; exact s6 i hi, by rw [c3, m3]; exact s7, fun e => by rw [c5, m 20 (by decide)]; exact s8 (by rw [← c3]; exact e), kp0_r s9 (m 7 (by decide))⟩
/-- write -/
theorem write_ok {u h : Nat} (hu : u ≤ 120) (hh : h ≤ 20) {O O' : Nat → Int32} {P P' : Nat → Nat → Int32} {o o' : Nat → Int32} {A A' : Nat → Nat → Int32} {Y : Nat → Nat → Int64} {x R R' : Int32} {z : Int64} (s : SS u h O P o A) (c : ∀ j, j ≠ 1 → j ≠ 2 → j ≠ 10 → j ≠ 11 → j ≠ 12 → O' j = O j) (m : ndY o u A o' A') (g : wrC O P Y (eW A) (A 6) (ltW A) u h x z O' P' R) (g' : wrM o A u h x z o' A' R') : R = R' ∧ ∃ u', u' ≤ 120 ∧ SS u' h O' P' o' A' := by
  have mk : ∀ u', NR u' P' A' → O' 1 = nI u' → o' 0 = nI u' → P' 32 = P 32 → P' 56 = P 56 → SS u' h O' P' o' A' := fun u' n e1 e0 e32 e56 => SS_pg s n e1 (c 9 (by decide) (by decide) (by decide) (by decide) (by decide)) (c 13 (by decide) (by decide) (by decide) (by decide) (by decide)) e32 e56 e0 (m.2.1 10 (by decide) (by decide) (by decide)) (m.2.1 30 (by decide) (by decide) (by decide)) m.2.2.1
  have same : O' 1 = nI u → o' 0 = nI u → (∀ i, ¬ (14 < i ∧ i ≤ 26) → P' i = P i) → ∃ u', u' ≤ 120 ∧ SS u' h O' P' o' A' := fun e1 e0 e => ⟨u, hu, mk u (NR_fr hu s.2.2.1 (fun i h1 h2 _ j _ => by rw [e i (by omega)]) (fun r _ j hj => m.2.2.2 r j hj)) e1 e0 (e 32 (by omega)) (e 56 (by omega))⟩
  rcases g with ⟨r, q, e1, ep⟩ | ⟨sy, Y1, hs, ex, z0, hZ, g⟩
  · rcases g' with ⟨r', _, e0⟩ | ⟨s', J1, hs', ex', z0', _⟩
    · exact ⟨r.trans r'.symm, same e1 e0 (fun i _ => by rw [ep])⟩
    · exact absurd ⟨⟨by rw [ex', nI_toInt (by omega)]; omega, by rw [ex', nI_toInt (by omega)]; omega⟩, z0'⟩ q
  · rcases g' with ⟨_, q, _⟩ | ⟨s', J1, hs', ex', z0', hJ, g'⟩
    · exact absurd ⟨⟨by rw [ex, nI_toInt (by omega)]; omega, by rw [ex, nI_toInt (by omega)]; omega⟩, z0⟩ q
    · have e1 : sy = s' := (nI_eq (by omega) (by omega)).mp (ex.symm.trans ex')
      subst e1
      have ec := ct_same hh hZ hJ
      have cl := ctW_le hJ
      unfold cap at cl
      rw [ec] at g
      rcases g with ⟨r, q, e1, ep⟩ | ⟨p, T, ez, hp, hT, g⟩
      · rcases g' with ⟨r', _, e0⟩ | ⟨p', T', ez', hp', _⟩
        · exact ⟨r.trans r'.symm, same e1 e0 (fun i _ => by rw [ep])⟩
        · exact absurd (by rw [ez']; exact (lN_ltJ (by omega) (by omega)).mpr hp') q
      · rcases g' with ⟨_, q, _⟩ | ⟨p', T', ez', hp', hT', g'⟩
        · exact absurd (by rw [ez]; exact (lN_ltJ (by omega) (by omega)).mpr hp) q
        · have e2 : p = p' := (lN_eqJ (by omega) (by omega)).mp (ez.symm.trans ez')
          subst e2
          have e3 : T = T' := RT_uq 20 0 h p T T' (RT_cg (L_same hh hZ hJ) 20 0 h p T (Nat.le_refl _) hT) hT'
          subst e3
          rcases g with ⟨r, w, e1, ep⟩ | ⟨r, w, e1, ep, P1, ep1, hl⟩
          · rcases g' with ⟨r', _, e0⟩ | ⟨_, w', _⟩
            · exact ⟨r.trans r'.symm, same e1 e0 ep⟩
            · omega
          · rcases g' with ⟨_, w', _⟩ | ⟨r', _, e0, A1, ea1, eA⟩
            · omega
            · have n1 : NR u P1 A1 := NR_fr hu s.2.2.1 (fun i h1 h2 _ j _ => by rw [ep1 i (by omega)]) (fun r _ j hj => ea1 r j (by omega))
              have n2 := (NR_ly 20 0 h p T hT u P1 A1 [] _ n1 w hl).1
              refine ⟨r.trans r'.symm, _, w, mk _ ?_ e1 e0 (ep 32 (by omega)) (ep 56 (by omega))⟩
              rw [eA]
              exact n2
end
section
/-! the law's invariant with the same state -/
theorem pg_NR {u : Nat} (hu : u ≤ 120) {P A : Nat → Nat → Int32} (n : NR u P A) (hT : tbI 0 u A) : pgB 1 u P := fun i hi => by
  obtain ⟨e0, _, e2, e3, e4, p4, p5, _⟩ := n i hi
  obtain ⟨k, z, h0, hk, h4, hz, hs, _⟩ := hT i (Nat.zero_le _) hi
  have sz : ∀ a, a < i → szq (P 6) (nI a) = szN A a := fun a ha => by
    rw [szq_nI _ (by omega)]
    show (P 6 a).toNatClampNeg = (A 4 a).toNatClampNeg
    rw [(n a (by omega)).2.2.2.2.1]
  have hz1 := (rN_sz (hT i (Nat.zero_le _) hi)).1
  rw [szN_of h4 hz] at hz1
  refine ⟨⟨k, hk, e0.trans h0⟩, p4, p5, z, e4.trans h4, hz1, hz, ?_⟩
  show 1 + szq (P 6) (P 4 i) + szq (P 6) (P 5 i) ≤ z
  rw [e2, e3]
  rcases hs with ⟨_, h2, h3, e⟩ | ⟨_, _, a, b, h2, _, ha, h3, _, hb, e⟩ | ⟨_, a, h2, _, ha, h3, e⟩
  · rw [h2, h3, cvI_m2, show szq (P 6) m1 = 0 from szq_m1 _]
    omega
  · rw [h2, h3, cvI_nI (by omega), cvI_nI (by omega), sz a ha, sz b hb]
    omega
  · rw [h2, h3, cvI_m2, cvI_nI (by omega), sz a ha, show szq (P 6) m1 = 0 from szq_m1 _]
    omega
def LI2 (O : Nat → Int32) (P : Nat → Nat → Int32) (Y : Nat → Nat → Int64) (o : Nat → Int32) (A : Nat → Nat → Int32) : Prop := LI O P Y o A ∧ ∃ u h, u ≤ 120 ∧ h ≤ 20 ∧ SS u h O P o A
theorem LI2_open {O : Nat → Int32} {P : Nat → Nat → Int32} {Y : Nat → Nat → Int64} {o : Nat → Int32} {A : Nat → Nat → Int32} (H : LI2 O P Y o A) : ∃ u h d d2, cI u h d O P Y ∧ mI u h d2 o A ∧ kpR P A ∧ fnR O A ∧ SS u h O P o A := by
  obtain ⟨⟨⟨u, l, d, hC⟩, ⟨u2, h2, d2, hM⟩, hk, hf⟩, u3, h3, b1, b2, s⟩ := H
  have c1 := hC.1
  have c2 := hC.2.2.2.1
  have k1 := hM.1
  have k2 := hM.2.2.2.2.1
  have e1 : u = u3 := (nI_eq (by omega) (by omega)).mp (hC.2.1.symm.trans s.1)
  have e2 : u2 = u3 := (nI_eq (by omega) (by omega)).mp (hM.2.1.symm.trans s.2.1)
  have e3 : l = h3 := (nI_eq (by omega) (by omega)).mp (hC.2.2.2.2.1.symm.trans s.2.2.2.1)
  have e4 : h2 = h3 := (nI_eq (by omega) (by omega)).mp (hM.2.2.2.2.2.1.symm.trans s.2.2.2.2.1)
  subst e1 e2 e3 e4
  exact ⟨_, _, d, d2, hC, hM, hk, hf, s⟩
theorem kp0_0 : kp0 A00 := fun s hs => by
  match s, hs with
  | 0, _ => decide +kernel
  | 1, _ => decide +kernel
  | 2, _ => decide +kernel
  | 3, _ => decide +kernel
  | 4, _ => decide +kernel
  | 5, _ => decide +kernel
  | 6, _ => decide +kernel
  | 7, _ => decide +kernel
  | s + 8, h => exact absurd h (by omega)
theorem LI2_0 : LI2 O00 P00 (fun _ _ => 0) o00 A00 := ⟨LI_0, 0, 0, by decide, by decide, rfl, rfl, fun n hn => absurd hn (Nat.not_lt_zero n), rfl, rfl, fun i hi => absurd hi (Nat.not_lt_zero i), rfl, fun e => absurd e (by decide), kp0_0⟩
/-- a call that leaves the same state -/
theorem LI2_fr {O O' : Nat → Int32} {P P' : Nat → Nat → Int32} {Y Y' : Nat → Nat → Int64} {o o' : Nat → Int32} {A A' : Nat → Nat → Int32} {u h : Nat} (H : LI2 O P Y o A) (hu : u ≤ 120) (hh : h ≤ 20) (s : SS u h O P o A) (c : cInv O' P' Y' ∧ cSt O P O' P') (m : mInv o' A' ∧ mSt A A') (ce : cE O P O' P') (me : mE u o A o' A') : LI2 O' P' Y' o' A' := ⟨LI_mk H.1 c m, u, h, hu, hh, SS_fr hu s ce me⟩
/-- a call that changes both alike -/
theorem LI2_mk {O O' : Nat → Int32} {P P' : Nat → Nat → Int32} {Y Y' : Nat → Nat → Int64} {o o' : Nat → Int32} {A A' : Nat → Nat → Int32} {u h d u' h' : Nat} (H : LI2 O P Y o A) (hC : cI u h d O P Y) (hu : u ≤ u') (hu' : u' ≤ 120) (hh' : h' ≤ 20) (s : SS u' h' O' P' o' A') (m : mInv o' A' ∧ mSt A A') (cs : cSt O P O' P') (hY : wyI Y') (h13 : O' 13 = O 13) (h14 : O' 14 = O 14) (h56 : P' 56 = P 56) (hs : ∀ j, 20 ≤ j → O' j = O j) : LI2 O' P' Y' o' A' := by
  obtain ⟨u2, h2, d2, hM⟩ := id m.1
  have k1 := hM.1
  have e2 : u2 = u' := (nI_eq (by omega) (by omega)).mp (hM.2.1.symm.trans s.2.1)
  subst e2
  refine ⟨LI_mk H.1 ⟨⟨u2, h', d, cI_mk hC hu hu' s.1 (pg_NR hu' s.2.2.1 hM.2.2.1) hh' s.2.2.2.1 hY h13 h14 h56 (fun t ht => ?_)⟩, cs⟩ m, u2, h', hu', hh', s⟩
  rw [hs _ (by omega)]
  exact hC.2.2.2.2.2.2.2.2.2.2 t ht
theorem keeps_SS {u h : Nat} (hu : u ≤ 120) {O : Nat → Int32} {P : Nat → Nat → Int32} {o : Nat → Int32} {A : Nat → Nat → Int32} (s : SS u h O P o A) {y k : Nat} (hk : 2 ≤ k ∧ k ≤ 9) (hk8 : k ≠ 8) (R : Nat → Int32) (on : Int32) : SS u h O (updA P 75 R) o (updA A 7 (upd (A 7) (10 * y + k) on)) := by
  obtain ⟨s1, s2, s3, s4, s5, s6, s7, s8, s9⟩ := s
  refine ⟨s1, s2, NR_fr hu s3 (fun i h1 h2 _ j _ => by rw [updA_ne _ _ (by omega)]) (fun r hr j hj => by rw [updA_ne _ _ (by omega)]), s4, s5, s6, s7, s8, fun t ht => ?_⟩
  rw [updA_self]
  have := s9 t ht
  exact ⟨by rw [upd_ne _ _ (by omega)]; exact this.1, by rw [upd_ne _ _ (by omega)]; exact this.2.1, by rw [upd_ne _ _ (by omega)]; exact this.2.2⟩
theorem means_SS {u h : Nat} (hu : u ≤ 120) {O : Nat → Int32} {P : Nat → Nat → Int32} {o : Nat → Int32} {A : Nat → Nat → Int32} (s : SS u h O P o A) (x : Int32) (R : Nat → Int32) : SS u h (upd O 0 x) P o (updA A 6 R) :=
  SS_fr hu s ⟨rfl, rfl, rfl, fun _ _ _ => rfl, rfl, fun _ => rfl⟩ ⟨rfl, rfl, rfl, fun r i hr _ => by rw [updA_ne _ _ (by omega)], rfl, fun _ => rfl, rfl⟩
end
section
/-! frames of the calls that leave the same state -/
theorem spT_W {O O' : Nat → Int32} {P P' : Nat → Nat → Int32} {l : Nat} (hl : l ≤ 20) (h9 : O 9 = nI l) (q : spT O P O' P') : spW O P O' P' := ⟨⟨l, hl, (q.1 9 (by decide)).trans h9⟩, fun j hj => q.1 j (by omega), fun i h1 h2 _ => q.2 i h1 h2⟩
theorem cE_sp {O O' : Nat → Int32} {P P' : Nat → Nat → Int32} (q : spT O P O' P') : cE O P O' P' := ⟨q.1 1 (by decide), q.1 9 (by decide), q.1 13 (by decide), fun i _ h2 => q.2 i (by omega) (by omega), q.2 32 (by decide) (by decide), fun _ => by rw [q.2 56 (by decide) (by decide)]⟩
theorem cE_13 (O : Nat → Int32) (P : Nat → Nat → Int32) (R : Nat → Int32) : cE O P O (updA P 13 R) := ⟨rfl, rfl, rfl, fun i _ h2 => updA_ne _ _ (by omega), rfl, fun _ => rfl⟩
theorem cE_ty {O O' : Nat → Int32} {P : Nat → Nat → Int32} (q : ∀ j, j ≠ 10 → j ≠ 11 → j ≠ 12 → O' j = O j) : cE O P O' P := ⟨q 1 (by decide) (by decide) (by decide), q 9 (by decide) (by decide) (by decide), q 13 (by decide) (by decide) (by decide), fun _ _ _ => rfl, rfl, fun _ => rfl⟩
theorem cE_Fr {O O' : Nat → Int32} {P P' : Nat → Nat → Int32} (q : cFr O P O' P') : cE O P O' P' := by
  obtain ⟨e, q⟩ := q
  subst e
  exact cE_ty q
theorem cFr_St {O O' : Nat → Int32} {P P' : Nat → Nat → Int32} {Y' : Nat → Nat → Int64} (q : cInv O' P' Y' ∧ cFr O P O' P') : cInv O' P' Y' ∧ cSt O P O' P' := ⟨q.1, q.2.2 0 (by decide) (by decide) (by decide), by rw [q.2.1]⟩
theorem cE_sh {O O' : Nat → Int32} {P P' : Nat → Nat → Int32} {s : Nat} (q : shW O P s O' P') : cE O P O' P' := ⟨q.1 1 (by omega), q.1 9 (by omega), q.1 13 (by omega), fun i _ h2 => q.2.1 i (by omega), q.2.1 32 (by omega), fun _ => by
  by_cases e : 56 = 60 + 2 * s
  · omega
  · rw [q.2.1 56 e]⟩
theorem cE_db {O O' : Nat → Int32} {P P' : Nat → Nat → Int32} {Y' : Nat → Nat → Int64} (q : dbC O P O' P' Y') : cE O P O' P' := ⟨q.2.1 1 (by decide) (by decide) (by decide) (by decide), q.2.1 9 (by decide) (by decide) (by decide) (by decide), q.2.1 13 (by decide) (by decide) (by decide) (by decide), fun i _ h2 => q.2.2 i (by omega), q.2.2 32 (by omega), fun _ => by rw [q.2.2 56 (by omega)]⟩
theorem cI_db {O O' : Nat → Int32} {P P' : Nat → Nat → Int32} {Y Y' : Nat → Nat → Int64} {u l d : Nat} (h : cI u l d O P Y) (q : dbC O P O' P' Y') : cInv O' P' Y' ∧ cSt O P O' P' :=
  cI_gr h ⟨q.1, ⟨u, (q.2.1 1 (by decide) (by decide) (by decide) (by decide)).trans h.2.1, Nat.le_refl _, h.1, pgB_row h.2.2.1 (fun i hi => q.2.2 i (by omega))⟩, fun j _ h2 h3 h4 h5 => q.2.1 j h2 h3 h4 h5, fun i hi => q.2.2 i (by omega)⟩
theorem cE_go {O : Nat → Int32} {P : Nat → Nat → Int32} {u d' : Nat} {N D : Nat → Int32} (q : O 13 = 1 → ∃ t, (t < u ∧ P 56 0 = nI t) ∧ rtN t d' N) : cE O P (upd O 14 (nI d')) (updA (updA P 56 N) 57 D) := ⟨rfl, rfl, rfl, fun i _ h2 => by rw [updA_ne _ _ (by omega), updA_ne _ _ (by omega)], rfl, fun e => by
  obtain ⟨t, ⟨_, h0⟩, r⟩ := q e
  rw [updA_ne _ _ (by decide), updA_self, h0]
  exact r.1⟩
theorem top_N {b : Prop} {u : Nat} {x : Int32} {R : Nat → Prop} (q : b → ∃ t, (t < u ∧ x = nI t) ∧ R t) : b → ∃ t, t < u ∧ R t := fun h => by
  obtain ⟨t, a, r⟩ := q h
  exact ⟨t, a.1, r⟩
theorem mE_q {o o' : Nat → Int32} {A A' : Nat → Nat → Int32} (u : Nat) (q : qX o A o' A') : mE u o A o' A' := ⟨q.1 0 (by decide), q.1 10 (by decide), q.1 30 (by decide), fun r i hr _ => by rw [q.2 r (by omega) (by omega)], q.2 8 (by decide) (by decide), fun _ => by rw [q.2 20 (by decide) (by decide)], q.2 7 (by decide) (by decide)⟩
theorem mE_cl {o o' : Nat → Int32} {A A' : Nat → Nat → Int32} {u : Nat} (hu : u ≤ 120) (q : clX o A o' A') : mE u o A o' A' := ⟨q.1 0 (by decide), q.1 10 (by decide), q.1 30 (by decide), fun r i hr hi => q.2.1 r i (by omega) (by omega), q.2.2 8 (by decide) (by decide), fun _ => by rw [q.2.2 20 (by decide) (by decide)], q.2.2 7 (by decide) (by decide)⟩
theorem mE_o {o o' : Nat → Int32} (A : Nat → Nat → Int32) (u : Nat) (q : ∀ j, j ≠ 16 → j ≠ 28 → o' j = o j) : mE u o A o' A := ⟨q 0 (by decide) (by decide), q 10 (by decide) (by decide), q 30 (by decide) (by decide), fun _ _ _ _ => rfl, rfl, fun _ => rfl, rfl⟩
theorem mE_sh {o o' : Nat → Int32} {A A' : Nat → Nat → Int32} (u : Nat) (q : shM o A o' A') : mE u o A o' A' := ⟨q.1 0 (by decide), q.1 10 (by decide), q.1 30 (by decide), fun r i hr _ => by rw [q.2.1 r (by omega) (by omega)], q.2.1 8 (by decide) (by decide), fun _ => by rw [q.2.1 20 (by decide) (by decide)], q.2.1 7 (by decide) (by decide)⟩
theorem mE_db {o o' : Nat → Int32} {A A' : Nat → Nat → Int32} {u : Nat} (h0 : o 0 = nI u) (q : dbM o u A o' A') : mE u o A o' A' := ⟨q.1.1.trans h0.symm, q.2.1 10 (by decide) (by decide) (by decide), q.2.1 30 (by decide) (by decide) (by decide), fun r i _ hi => q.2.2.2 r i hi, q.2.2.1 8 (by decide), fun _ => by rw [q.2.2.1 20 (by decide)], q.2.2.1 7 (by decide)⟩
theorem mI_db {o o' : Nat → Int32} {A A' : Nat → Nat → Int32} {u h d : Nat} (H : mI u h d o A) (q : dbM o u A o' A') : mInv o' A' ∧ mSt A A' := mI_y H ⟨⟨u, Nat.le_refl _, H.1, q.1.1, q.1.2⟩, q.2.1, q.2.2.1, q.2.2.2⟩
theorem mE_go {o : Nat → Int32} {A : Nat → Nat → Int32} {u d' : Nat} {N D : Nat → Int32} (q : o 30 = 1 → ∃ t, (t < u ∧ A 20 0 = nI t) ∧ rtM A t d' N) : mE u o A (upd o 33 (nI d')) (updA (updA A 20 N) 21 D) := ⟨rfl, rfl, rfl, fun r i hr _ => by rw [updA_ne _ _ (by omega), updA_ne _ _ (by omega)], rfl, fun e => by
  obtain ⟨t, ⟨_, h0⟩, r⟩ := q e
  rw [updA_ne _ _ (by decide), updA_self, h0]
  exact r.1, rfl⟩
end
section
/-! the law's invariant after each call that changes both -/
theorem sets_lt (A : Nat → Nat → Int32) {u i : Nat} (k v x y : Int32) (r : Nat) (h : i < u) : setsA A u k v x y r i = A r i := by
  unfold setsA updA
  have e : i ≠ u := by omega
  by_cases h5 : r = 5
  · rw [if_pos h5, upd_ne _ _ e, h5]
  · rw [if_neg h5]
    by_cases h4 : r = 4
    · rw [if_pos h4, upd_ne _ _ e, h4]
    · rw [if_neg h4]
      by_cases h3 : r = 3
      · rw [if_pos h3, upd_ne _ _ e, h3]
      · rw [if_neg h3]
        by_cases h2 : r = 2
        · rw [if_pos h2, upd_ne _ _ e, h2]
        · rw [if_neg h2]
          by_cases h1 : r = 1
          · rw [if_pos h1, upd_ne _ _ e, h1]
          · rw [if_neg h1]
            by_cases h0 : r = 0
            · rw [if_pos h0, upd_ne _ _ e, h0]
            · rw [if_neg h0]
theorem page_LI {O : Nat → Int32} {P P' : Nat → Nat → Int32} {Y : Nat → Nat → Int64} {o : Nat → Int32} {A : Nat → Nat → Int32} {u h d d2 : Nat} (H : LI2 O P Y o A) (hC : cI u h d O P Y) (hM : mI u h d2 o A) (hu : u < 120) {k v x y : Int32} (qT : tbI 0 (u + 1) (setsA A u k v x y)) (s : SS (u + 1) h (upd O 1 (nI (u + 1))) P' (upd o 0 (nI (u + 1))) (setsA A u k v x y)) (e : ∀ i, ¬ (1 < i ∧ i ≤ 13) → P' i = P i) : LI2 (upd O 1 (nI (u + 1))) P' Y (upd o 0 (nI (u + 1))) (setsA A u k v x y) :=
  LI2_mk H hC (Nat.le_succ u) hu hC.2.2.2.1 s (mI_nd hM ⟨Nat.le_succ u, hu, qT, fun r hr => sets_ne6 _ _ _ _ _ _ hr, fun r i hi => sets_lt _ _ _ _ _ r hi⟩) ⟨rfl, e 75 (by omega)⟩ hC.2.2.2.2.2.1 rfl rfl (e 56 (by omega)) (fun j hj => upd_ne _ _ (by omega))
theorem leaf_LI {O : Nat → Int32} {P : Nat → Nat → Int32} {Y : Nat → Nat → Int64} {o : Nat → Int32} {A : Nat → Nat → Int32} {u h d d2 : Nat} (H : LI2 O P Y o A) (hC : cI u h d O P Y) (hM : mI u h d2 o A) (s : SS u h O P o A) {k v sh : Int32} (q : lfG k v ∧ u < 120) (qT : tbI 0 (u + 1) (setsA A u k v m2 m2)) : LI2 (upd O 1 (nI (u + 1))) (stC 1 P u k v m1 m1 sh) Y (upd o 0 (nI (u + 1))) (setsA A u k v m2 m2) :=
  page_LI H hC hM q.2 qT (leaf_ok q.2 s sh q.1) (fun _ w => stC_ne1 _ _ _ _ _ _ _ w)
theorem node_LI {O : Nat → Int32} {P : Nat → Nat → Int32} {Y : Nat → Nat → Int64} {o : Nat → Int32} {A : Nat → Nat → Int32} {u h d d2 : Nat} (H : LI2 O P Y o A) (hC : cI u h d O P Y) (hM : mI u h d2 o A) (s : SS u h O P o A) {k x y sh : Int32} (g : ndG u k x y) (hu : u < 120) (qT : tbI 0 (u + 1) (setsA A u k (ndv m2 k y) x (ndy m2 k y))) : LI2 (upd O 1 (nI (u + 1))) (stC 1 P u k (ndv m1 k y) x (ndy m1 k y) sh) Y (upd o 0 (nI (u + 1))) (setsA A u k (ndv m2 k y) x (ndy m2 k y)) :=
  page_LI H hC hM hu qT (node_ok hu s sh g) (fun _ w => stC_ne1 _ _ _ _ _ _ _ w)
theorem undo_LI {O : Nat → Int32} {P : Nat → Nat → Int32} {Y : Nat → Nat → Int64} {o : Nat → Int32} {A : Nat → Nat → Int32} {u h d d2 : Nat} (H : LI2 O P Y o A) (hC : cI u h d O P Y) (hM : mI u h d2 o A) (s : SS u h O P o A) (q : u ≠ 0 ∧ ¬ (O 13 = 1 ∧ P 56 0 = nI (u - 1))) (q' : u ≠ 0 ∧ ¬ (o 30 = 1 ∧ A 20 0 = nI (u - 1))) : LI2 (upd O 1 (nI (u - 1))) P Y (upd o 0 (nI (u - 1))) A :=
  ⟨LI_mk H.1 (cI_un hC (by have := q.1; omega) (fun a b => q.2 ⟨a, b⟩)) (mI_un hM (by have := q.1; omega) (fun a b => q'.2 ⟨a, b⟩)), u - 1, h, by have := hC.1; omega, hC.2.2.2.1, SS_lv s (by omega)⟩
theorem hush_LI {O : Nat → Int32} {P : Nat → Nat → Int32} {Y : Nat → Nat → Int64} {o : Nat → Int32} {A : Nat → Nat → Int32} {u h d d2 : Nat} (H : LI2 O P Y o A) (hC : cI u h d O P Y) (hM : mI u h d2 o A) (s : SS u h O P o A) : LI2 (upd O 9 (Int32.ofInt 0)) P Y (upd o 10 (Int32.ofInt 0)) A :=
  ⟨LI_mk H.1 (cI_hr (l' := 0) hC (by decide) (fun _ _ => rfl)) (mI_hu hM), u, 0, hC.1, by decide, (hush_ok hC.1 s).2⟩
theorem walk_LI {O : Nat → Int32} {P : Nat → Nat → Int32} {Y : Nat → Nat → Int64} {o : Nat → Int32} {A : Nat → Nat → Int32} {u h d d2 : Nat} (H : LI2 O P Y o A) (hC : cI u h d O P Y) (hM : mI u h d2 o A) (s : SS u h O P o A) {x : Int32} (q : isN u x) : LI2 (upd (upd O 13 (Int32.ofInt 1)) 14 (Int32.ofInt 0)) (updA P 56 (upd (P 56) 0 x)) Y (upd (upd o 30 (Int32.ofInt 1)) 33 (Int32.ofInt 0)) (updA A 20 (upd (A 20) 0 x)) := by
  obtain ⟨n, hn, e⟩ := isN_n hC.1 q
  subst e
  exact ⟨LI_mk H.1 (cI_wk hC hn) (mI_wk hM hn), u, h, hC.1, hC.2.2.2.1, walk_ok hC.1 s _⟩
theorem spV_W {O O' : Nat → Int32} {P P' : Nat → Nat → Int32} {l : Nat} (hl : l ≤ 20) (h9 : O' 9 = nI l) (q : spV O P O' P') : spW O P O' P' := ⟨⟨l, hl, h9⟩, q.1, q.2⟩
theorem listen_LI {O O' : Nat → Int32} {P P' : Nat → Nat → Int32} {Y : Nat → Nat → Int64} {o o' : Nat → Int32} {A A' : Nat → Nat → Int32} {u h d d2 : Nat} {x y R R' : Int32} (H : LI2 O P Y o A) (hC : cI u h d O P Y) (hM : mI u h d2 o A) (s : SS u h O P o A) (hk : kpR P A) (c : spV O P O' P') (m : eX o A o' A') (g : clR O P u x y O' P' R) (g' : mlR o A u x y o' A' R') : R = R' ∧ LI2 O' P' Y o' A' := by
  obtain ⟨e, h', hh', s'⟩ := listen_ok hC.1 hC.2.2.2.1 s hM.2.2.1 hk c m g g'
  exact ⟨e, LI_mk H.1 (cI_sp hC (spV_W hh' s'.2.2.2.1 c)) (mI_e hM m), u, h', hC.1, hh', s'⟩
theorem fewest_LI {O O' : Nat → Int32} {P P' : Nat → Nat → Int32} {Y : Nat → Nat → Int64} {o o' : Nat → Int32} {A A' : Nat → Nat → Int32} {u h d d2 : Nat} {x R R' : Int32} (H : LI2 O P Y o A) (hC : cI u h d O P Y) (hM : mI u h d2 o A) (s : SS u h O P o A) (hf : fnR O A) (c : spV O P O' P') (m : fwX o A o' A') (g : cfR O P u x O' P' R) (g' : fwR A u h x o' A' R' (o' = o ∧ A' = A)) : R = R' ∧ LI2 O' P' Y o' A' := by
  obtain ⟨e, h', hh', s'⟩ := fewest_ok hC.1 hC.2.2.2.1 s hM.2.2.1 hf c m g g'
  exact ⟨e, LI_mk H.1 (cI_sp hC (spV_W hh' s'.2.2.2.1 c)) (mI_f hM m), u, h', hC.1, hh', s'⟩
theorem wrC_P {O O' : Nat → Int32} {P P' : Nat → Nat → Int32} {Y : Nat → Nat → Int64} {E : Nat → Nat} {G : Nat → Int32} {lt : Nat → Nat → Nat → Bool} {u n : Nat} {x R : Int32} {z : Int64} (g : wrC O P Y E G lt u n x z O' P' R) : ∀ i, 26 < i → P' i = P i := fun i hi => by
  rcases g with ⟨_, _, _, e⟩ | ⟨_, _, _, _, _, _, ⟨_, _, _, e⟩ | ⟨_, _, _, _, _, ⟨_, _, _, e⟩ | ⟨_, _, _, e, _⟩⟩⟩
  · rw [e]
  · rw [e]
  · exact e i (by omega)
  · exact e i (by omega)
theorem write_LI {O O' : Nat → Int32} {P P' : Nat → Nat → Int32} {Y Y' : Nat → Nat → Int64} {o o' : Nat → Int32} {A A' : Nat → Nat → Int32} {u h d d2 : Nat} {x R R' : Int32} {z : Int64} (H : LI2 O P Y o A) (hC : cI u h d O P Y) (hM : mI u h d2 o A) (s : SS u h O P o A) (hY : wyI Y → wyI Y') (c : ∀ j, j ≠ 1 → j ≠ 2 → j ≠ 10 → j ≠ 11 → j ≠ 12 → O' j = O j) (m : ndY o u A o' A') (g : wrC O P Y (eW A) (A 6) (ltW A) u h x z O' P' R) (g' : wrM o A u h x z o' A' R') : R = R' ∧ LI2 O' P' Y' o' A' := by
  obtain ⟨e, u', hu', s'⟩ := write_ok hC.1 hC.2.2.2.1 s c m g g'
  have f := fun (j : Nat) (w : 13 ≤ j ∨ j = 0) => c j (by omega) (by omega) (by omega) (by omega) (by omega)
  obtain ⟨u2, w1, w2, w3, w4⟩ := id m.1
  have e2 : u2 = u' := (nI_eq (by omega) (by omega)).mp (w3.symm.trans s'.2.1)
  subst e2
  exact ⟨e, LI2_mk H hC w1 w2 hC.2.2.2.1 s' (mI_y hM m) ⟨f 0 (Or.inr rfl), wrC_P g 75 (by decide)⟩ (hY hC.2.2.2.2.2.1) (f 13 (by omega)) (f 14 (by omega)) (wrC_P g 56 (by decide)) (fun j hj => f j (by omega))⟩
theorem heL_nn (y : Int32) : ∀ (k : Nat) (g : Nat → Int32) (l : Nat), nnW l g → nnW (l + k) (heL y k g l)
  | 0, _, _, h => h
  | k + 1, g, l, h => by
    have := heL_nn y k (upd g l (dgV y k)) (l + 1) (fun i hi => by
      by_cases e : i = l
      · subst e
        rw [upd_self]
        exact (dgV_31 y k).2
      · rw [upd_ne _ _ e]
        exact h i (by omega))
    rw [show l + 1 + k = l + (k + 1) by omega] at this
    exact this
theorem hear_LI {O : Nat → Int32} {P : Nat → Nat → Int32} {Y : Nat → Nat → Int64} {o : Nat → Int32} {A : Nat → Nat → Int32} {u h d d2 n : Nat} (H : LI2 O P Y o A) (hC : cI u h d O P Y) (hM : mI u h d2 o A) (s : SS u h O P o A) (y : Int32) (hn : h + n ≤ 20) : LI2 (upd O 9 (nI (h + n))) (updA P 32 (heL y n (P 32) h)) Y (upd o 10 (nI (h + n))) (updA A 8 (heL y n (A 8) h)) :=
  ⟨LI_mk H.1 (cI_hr hC hn (fun i hi => updA_ne _ _ hi)) (mI_hr hM hn (heL_nn y n _ h hM.2.2.2.2.2.2.1)), u, h + n, hC.1, hn, hear_st hC.1 s y⟩
end
section
theorem isN_nI {u n : Nat} (hu : u ≤ 120) (hn : n < u) : isN u (nI n) := by
  unfold isN
  rw [nI_toInt (by omega)]
  omega
end
section
noncomputable def eN (A : Nat → Nat → Int32) : Nat → Int32 → Int32 → Nat
  | 0, _, _ => 0
  | z + 1, x, y => if x < 0 then 0 else (if A 0 (nC x) = A 0 (nC y) then eN A z (A 2 (nC x)) (A 2 (nC y)) + eN A z (A 3 (nC x)) (A 3 (nC y)) else 1)
/-- the answer over two NODES -/
def twR (u : Nat) (x y : Int32) (F : Nat → Nat → Int32) (R : Int32) : Prop := (R = Int32.ofInt (-1) ∧ ¬ (isN u x ∧ isN u y)) ∨ ∃ n m, n < u ∧ m < u ∧ x = nI n ∧ y = nI m ∧ R = F n m
theorem twR_same {u : Nat} (hu : u ≤ 120) {x y R R' : Int32} {F F' : Nat → Nat → Int32} (g : twR u x y F R) (g' : twR u x y F' R') (e : ∀ n m, n < u → m < u → F n m = F' n m) : R = R' := by
  rcases g with ⟨r1, q1⟩ | ⟨n, m, hn, hm, ex, ey, q1⟩ <;> rcases g' with ⟨r2, q2⟩ | ⟨n', m', hn', hm', ex', ey', q2⟩
  · rw [r1, r2]
  · exact absurd ⟨by rw [ex']; exact isN_nI hu hn', by rw [ey']; exact isN_nI hu hm'⟩ q1
  · exact absurd ⟨by rw [ex]; exact isN_nI hu hn, by rw [ey]; exact isN_nI hu hm⟩ q2
  · have en : n = n' := (nI_eq (by omega) (by omega)).mp (ex.symm.trans ex')
    have em : m = m' := (nI_eq (by omega) (by omega)).mp (ey.symm.trans ey')
    subst en
    subst em
    rw [q1, q2, e n m hn hm]
end
section
theorem m1_n {a : Nat} (h : a < 2 ^ 31) : ¬ nI a = Int32.ofInt (-1) := fun e => by
  have : (nI a).toInt = (Int32.ofInt (-1)).toInt := by rw [e]
  rw [nI_toInt h, show (Int32.ofInt (-1)).toInt = -1 from by decide] at this
  omega
end
section
def omV (x : Int32) : Int32 := if x = Int32.ofInt (-1) then c8 (-2) else x
theorem om_cv (x : Int32) (h : x = m2 ∨ ∃ v, v ≤ 9999 ∧ x = nI v) : omV (cvI x) = x := by
  unfold omV
  rcases h with e | ⟨v, hv, e⟩
  · rw [e, cvI_m2, if_pos rfl]
  · rw [e, cvI_nI (by omega), if_neg (m1_n (by omega))]
end
section
/-! shapes: two NODES have the same shape just when they are alike -/
def shV (S : Nat → Int32) (x : Int32) : Int32 := if x = m1 then m1 else S x.toNatClampNeg
theorem shV_m1 (S : Nat → Int32) : shV S m1 = m1 := if_pos rfl
theorem shV_nI (S : Nat → Int32) {n : Nat} (h : n < 1000) : shV S (nI n) = S n := by
  unfold shV
  rw [if_neg (m1_n (by omega)), nI_clamp (by omega)]
theorem shQ_V {u : Nat} (hu : u ≤ 120) {S : Nat → Int32} {x : Int32} (h : okp u x) : shQ (nI u) S x = shV S x := by
  rcases h with e | ⟨j, hj, e⟩
  · rw [e, show (Int32.ofInt (-1)) = m1 from rfl, shV_m1]
    exact @if_neg _ (Classical.propDecidable _) (fun q => absurd q.1 (by decide)) _ _ _
  · rw [e, shV_nI _ (by omega)]
    refine (@if_pos _ (Classical.propDecidable _) ?_ _ _ _).trans (by rw [nI_clamp (by omega)])
    rw [nI_toInt (by omega), nI_toInt (by omega)]
    omega
theorem shV_fr {n : Nat} (hn : n ≤ 120) {S S' : Nat → Int32} (e : ∀ j, j < n → S' j = S j) {x : Int32} (h : okp n x) : shV S' x = shV S x := by
  rcases h with q | ⟨j, hj, q⟩
  · rw [q, show (Int32.ofInt (-1)) = m1 from rfl, shV_m1, shV_m1]
  · rw [q, shV_nI _ (by omega), shV_nI _ (by omega), e j hj]
/-- the same top, and parts of the same shape -/
def SE (b : Nat) (P : Nat → Nat → Int32) (m n : Nat) : Prop := P (b + 1) m = P (b + 1) n ∧ P (b + 2) m = P (b + 2) n ∧ shV (P (b + 11)) (P (b + 3) m) = shV (P (b + 11)) (P (b + 3) n) ∧ shV (P (b + 11)) (P (b + 4) m) = shV (P (b + 11)) (P (b + 4) n)
theorem SE_sm {b m n : Nat} {P : Nat → Nat → Int32} (h : SE b P m n) : SE b P n m := ⟨h.1.symm, h.2.1.symm, h.2.2.1.symm, h.2.2.2.symm⟩
theorem SE_tr {b m n k : Nat} {P : Nat → Nat → Int32} (h : SE b P m n) (g : SE b P n k) : SE b P m k := ⟨h.1.trans g.1, h.2.1.trans g.2.1, h.2.2.1.trans g.2.2.1, h.2.2.2.trans g.2.2.2⟩
theorem SE_id (b m : Nat) (P : Nat → Nat → Int32) : SE b P m m := ⟨rfl, rfl, rfl, rfl⟩
def SI (b u : Nat) (P : Nat → Nat → Int32) : Prop := ∀ n, n < u → (∃ s, s ≤ n ∧ P (b + 11) n = nI s) ∧ ∀ m, m < u → (P (b + 11) m = P (b + 11) n ↔ SE b P m n)
/-- the parts of every NODE come before it -/
def PO (b u : Nat) (P : Nat → Nat → Int32) : Prop := ∀ n, n < u → okp n (P (b + 3) n) ∧ okp n (P (b + 4) n)
theorem okp_up {n m : Nat} {x : Int32} (h : okp n x) (hm : n ≤ m) : okp m x := h.imp id (fun ⟨j, hj, e⟩ => ⟨j, by omega, e⟩)
theorem SE_fr {b u : Nat} (hu : u ≤ 120) {P P' : Nat → Nat → Int32} (hO : PO b u P) (e : ∀ i, b < i → i ≤ b + 11 → ∀ j, j < u → P' i j = P i j) {m n : Nat} (hm : m < u) (hn : n < u) : SE b P' m n ↔ SE b P m n := by
  unfold SE
  have f : ∀ i, b < i → i ≤ b + 4 → ∀ k, k < u → P' i k = P i k := fun i h1 h2 k hk => e i h1 (by omega) k hk
  have s : ∀ k, k < u → shV (P' (b + 11)) (P (b + 3) k) = shV (P (b + 11)) (P (b + 3) k) ∧ shV (P' (b + 11)) (P (b + 4) k) = shV (P (b + 11)) (P (b + 4) k) := fun k hk => ⟨shV_fr (by omega) (fun j hj => e (b + 11) (by omega) (by omega) j (by omega)) (hO k hk).1, shV_fr (by omega) (fun j hj => e (b + 11) (by omega) (by omega) j (by omega)) (hO k hk).2⟩
  rw [f (b + 1) (by omega) (by omega) m hm, f (b + 1) (by omega) (by omega) n hn, f (b + 2) (by omega) (by omega) m hm, f (b + 2) (by omega) (by omega) n hn, f (b + 3) (by omega) (by omega) m hm, f (b + 3) (by omega) (by omega) n hn, f (b + 4) (by omega) (by omega) m hm, f (b + 4) (by omega) (by omega) n hn, (s m hm).1, (s m hm).2, (s n hn).1, (s n hn).2]
theorem SI_fr {b u : Nat} (hu : u ≤ 120) {P P' : Nat → Nat → Int32} (hO : PO b u P) (h : SI b u P) (e : ∀ i, b < i → i ≤ b + 11 → ∀ j, j < u → P' i j = P i j) : SI b u P' := fun n hn => by
  obtain ⟨h1, h2⟩ := h n hn
  refine ⟨by rw [e (b + 11) (by omega) (by omega) n hn]; exact h1, fun m hm => ?_⟩
  rw [SE_fr hu hO e hm hn, e (b + 11) (by omega) (by omega) n hn, e (b + 11) (by omega) (by omega) m hm]
  exact h2 m hm
theorem SI_le {b u u' : Nat} {P : Nat → Nat → Int32} (h : SI b u P) (hu : u' ≤ u) : SI b u' P := fun n hn => ⟨(h n (by omega)).1, fun m hm => (h n (by omega)).2 m (by omega)⟩
theorem faW_spec {b : Nat} {U : Int32} {X : Nat → Nat → Int32} {n : Nat} : ∀ (c m : Nat), m + c = n → (∃ j, m ≤ j ∧ j < n ∧ faT b U X n j ∧ faW b U X n c m = X (b + 11) (nI j).toNatClampNeg) ∨ ((∀ j, m ≤ j → j < n → ¬ faT b U X n j) ∧ faW b U X n c m = nI n)
  | 0, m, h => Or.inr ⟨fun j h1 h2 => absurd h2 (by omega), rfl⟩
  | c + 1, m, h => by
    by_cases q : faT b U X n m
    · exact Or.inl ⟨m, Nat.le_refl _, by omega, q, faW_yes q⟩
    · rw [faW_no q]
      rcases faW_spec (b := b) (U := U) (X := X) (n := n) c (m + 1) (by omega) with ⟨j, h1, h2, h3, h4⟩ | ⟨h1, h2⟩
      · exact Or.inl ⟨j, by omega, h2, h3, h4⟩
      · refine Or.inr ⟨fun j h3 h4 => ?_, h2⟩
        by_cases e : j = m
        · rw [e]
          exact q
        · exact h1 j (by omega) h4
/-- a NODE comes: its shape by firstAlike -/
theorem SI_put {b u : Nat} {X P : Nat → Nat → Int32} (hu : u < 120) (h : SI b u P) (hO : PO b (u + 1) P) (hX : ∀ r, b < r → r ≤ b + 4 → X r = P r) (hS : ∀ j, j < u → X (b + 11) j = P (b + 11) j) (e : P (b + 11) u = faW b (nI u) X u u 0) : SI b (u + 1) P := by
  have cl : ∀ j, j ≤ u → (nI j).toNatClampNeg = j := fun j hj => nI_clamp (by omega)
  have sv : ∀ x, okp u x → shQ (nI u) (X (b + 11)) x = shV (P (b + 11)) x := fun x hx => by
    rw [shQ_V (by omega) hx]
    exact shV_fr (by omega) hS hx
  have ft : ∀ m, m < u → (faT b (nI u) X u m ↔ SE b P m u) := fun m hm => by
    have o1 := hO m (by omega)
    have o2 := hO u (by omega)
    unfold faT SE
    rw [cl m (by omega), cl u (by omega), hX (b + 1) (by omega) (by omega), hX (b + 2) (by omega) (by omega), hX (b + 3) (by omega) (by omega), hX (b + 4) (by omega) (by omega), sv _ (okp_up o1.1 (by omega)), sv _ (okp_up o1.2 (by omega)), sv _ o2.1, sv _ o2.2]
    exact ⟨fun q => ⟨q.1.1, q.1.2, q.2.1, q.2.2⟩, fun q => ⟨⟨q.1, q.2.1⟩, q.2.2.1, q.2.2.2⟩⟩
  have key : (∃ s, s ≤ u ∧ P (b + 11) u = nI s) ∧ ∀ m, m < u → (P (b + 11) m = P (b + 11) u ↔ SE b P m u) := by
    rcases faW_spec (b := b) (U := nI u) (X := X) (n := u) u 0 (by omega) with ⟨j, _, hj, t, w⟩ | ⟨t, w⟩
    · rw [w, cl j (by omega), hS j hj] at e
      obtain ⟨⟨s, hs, es⟩, hm⟩ := h j hj
      have tj := (ft j hj).mp t
      refine ⟨⟨s, by omega, e.trans es⟩, fun m hmu => ?_⟩
      rw [e, hm m hmu]
      exact ⟨fun q => SE_tr q tj, fun q => SE_tr q (SE_sm tj)⟩
    · rw [w] at e
      refine ⟨⟨u, Nat.le_refl _, e⟩, fun m hmu => ⟨fun q => ?_, fun q => absurd ((ft m hmu).mpr q) (t m (Nat.zero_le _) hmu)⟩⟩
      obtain ⟨⟨s, hs, es⟩, _⟩ := h m hmu
      rw [es, e] at q
      have := (nI_eq (by omega) (by omega)).mp q
      omega
  intro n hn
  by_cases q : n = u
  · subst q
    refine ⟨key.1, fun m hm => ?_⟩
    by_cases w : m = n
    · subst w
      exact ⟨fun _ => SE_id _ _ _, fun _ => rfl⟩
    · exact key.2 m (by omega)
  · refine ⟨(h n (by omega)).1, fun m hm => ?_⟩
    by_cases w : m = u
    · subst w
      exact ⟨fun a => SE_sm ((key.2 n (by omega)).mp a.symm), fun a => ((key.2 n (by omega)).mpr (SE_sm a)).symm⟩
    · exact (h n (by omega)).2 m (by omega)
theorem NR_PO {u : Nat} {P A : Nat → Nat → Int32} (h : NR u P A) : PO 1 u P := fun n hn => ⟨(h n hn).2.2.2.2.2.1, (h n hn).2.2.2.2.2.2.1⟩
theorem v_om {lo n : Nat} {A : Nat → Nat → Int32} (h : rN lo A n) : omV (cvI (A 1 n)) = A 1 n := by
  obtain ⟨k, h0, hk, hs, h40, hv⟩ := rN_val h
  refine om_cv _ ?_
  by_cases q28 : 2 ≤ k ∧ k ≤ 8
  · exact Or.inl (hv.2.2 q28.1 q28.2)
  · rcases (show k = 1 ∨ (k = 0 ∨ k = 9) by omega) with q1 | q1
    · exact Or.inr (hv.2.1 q1)
    · obtain ⟨v, a, b⟩ := hv.1 q1
      exact Or.inr ⟨v, by omega, b⟩
theorem sh_sz {u : Nat} (hu : u ≤ 120) {P A : Nat → Nat → Int32} (hT : tbI 0 u A) (hN : NR u P A) (hS : SI 1 u P) : ∀ (z m n : Nat), m < u → n < u → szN A m ≤ z → P 12 m = P 12 n → szN A m = szN A n
  | 0, m, n, hm, hn, hz, _ => by
    have := (rN_sz (hT m (Nat.zero_le _) hm)).1
    omega
  | z + 1, m, n, hm, hn, hz, e => by
    have ih := sh_sz hu hT hN hS z
    obtain ⟨a1, a2, a3, a4, _⟩ := hN m hm
    obtain ⟨b1, b2, b3, b4, _⟩ := hN n hn
    obtain ⟨q1, q2, q3, q4⟩ : SE 1 P m n := ((hS n hn).2 m hm).mp e
    replace q3 : shV (P 12) (P 4 m) = shV (P 12) (P 4 n) := q3
    replace q4 : shV (P 12) (P 5 m) = shV (P 12) (P 5 n) := q4
    replace q1 : P 2 m = P 2 n := q1
    rw [a3, b3] at q3
    rw [a4, b4] at q4
    rw [a1, b1] at q1
    obtain ⟨k, h0, hk, hs, _⟩ := rN_val (hT m (Nat.zero_le _) hm)
    obtain ⟨k', h0', hk', hs', _⟩ := rN_val (hT n (Nat.zero_le _) hn)
    have ek : k = k' := (nI_eq (by omega) (by omega)).mp (h0.symm.trans (q1.trans h0'))
    subst ek
    have g : ∀ a c, a < m → c < n → szN A a ≤ z → shV (P 12) (cvI (nI a)) = shV (P 12) (cvI (nI c)) → szN A a = szN A c := fun a c ha hc sa w => by
      rw [cvI_nI (by omega), cvI_nI (by omega), shV_nI _ (by omega), shV_nI _ (by omega)] at w
      exact ih a c (by omega) (by omega) sa w
    rcases hs with ⟨k1, h2, h3, es⟩ | ⟨k1, k6, c, d, h2, la, hc, h3, lb, hd, es⟩ | ⟨k1, c, h2, la, hc, h3, es⟩ <;> rcases hs' with ⟨k1', h2', h3', es'⟩ | ⟨k1', k6', c', d', h2', la', hc', h3', lb', hd', es'⟩ | ⟨k1', c', h2', la', hc', h3', es'⟩
    · rw [es, es']
    · omega
    · omega
    · omega
    · rw [h2, h2'] at q3
      rw [h3, h3'] at q4
      rw [es, es', g c c' hc hc' (by omega) q3, g d d' hd hd' (by omega) q4]
    · omega
    · omega
    · omega
    · rw [h2, h2'] at q3
      rw [es, es', g c c' hc hc' (by omega) q3]
/-- alike (the reference's word) is the same shape (the class's) -/
theorem sh_alk {u : Nat} (hu : u ≤ 120) {P A : Nat → Nat → Int32} (hT : tbI 0 u A) (hN : NR u P A) (hS : SI 1 u P) : ∀ (z m n : Nat), m < u → n < u → szN A m ≤ z → (alk A z (nI m) (nI n) ↔ P 12 m = P 12 n)
  | 0, m, n, hm, hn, hz => by
    have := (rN_sz (hT m (Nat.zero_le _) hm)).1
    omega
  | z + 1, m, n, hm, hn, hz => by
    have ih := sh_alk hu hT hN hS z
    obtain ⟨a1, a2, a3, a4, a5, _⟩ := hN m hm
    obtain ⟨b1, b2, b3, b4, b5, _⟩ := hN n hn
    have e1 : P 2 m = P 2 n ↔ A 0 m = A 0 n := by rw [a1, b1]
    have e2 : P 3 m = P 3 n ↔ A 1 m = A 1 n := by
      rw [a2, b2]
      refine ⟨fun q => ?_, fun q => by rw [q]⟩
      have := congrArg omV q
      rwa [v_om (hT m (Nat.zero_le _) hm), v_om (hT n (Nat.zero_le _) hn)] at this
    have part : ∀ x y, (x = m2 ∨ ∃ a, x = nI a ∧ a < m ∧ szN A a + 1 ≤ szN A m) → (y = m2 ∨ ∃ a, y = nI a ∧ a < n ∧ szN A a + 1 ≤ szN A n) → (shV (P 12) (cvI x) = shV (P 12) (cvI y) ↔ alk A z x y) := by
      rintro x y (rfl | ⟨a, rfl, ha, sa⟩) (rfl | ⟨c, rfl, hc, sc⟩)
      · exact ⟨fun _ => alk_mm A z, fun _ => rfl⟩
      · rw [cvI_m2, cvI_nI (by omega), shV_m1, shV_nI _ (by omega)]
        obtain ⟨⟨s, hs, es⟩, _⟩ := hS c (by omega)
        exact ⟨fun q => absurd (q.trans es).symm (m1_n (a := s) (by omega)), fun q => absurd q (alk_mn A z (by omega))⟩
      · rw [cvI_m2, cvI_nI (by omega), shV_m1, shV_nI _ (by omega)]
        obtain ⟨⟨s, hs, es⟩, _⟩ := hS a (by omega)
        exact ⟨fun q => absurd (es.symm.trans q) (m1_n (a := s) (by omega)), fun q => absurd q (alk_nm A z (by omega))⟩
      · rw [cvI_nI (by omega), cvI_nI (by omega), shV_nI _ (by omega), shV_nI _ (by omega)]
        exact (ih a c (by omega) (by omega) (by omega)).symm
    obtain ⟨dm2, dm3⟩ := rN_dn (hT m (Nat.zero_le _) hm)
    obtain ⟨dn2, dn3⟩ := rN_dn (hT n (Nat.zero_le _) hn)
    have e3 := part _ _ dm2 dn2
    have e4 := part _ _ dm3 dn3
    rw [← a3, ← b3] at e3
    rw [← a4, ← b4] at e4
    have hs : P 12 m = P 12 n ↔ SE 1 P m n := (hS n hn).2 m hm
    have hsz : P 12 m = P 12 n → A 4 m = A 4 n := fun q => by
      rw [(rN_sz (hT m (Nat.zero_le _) hm)).2.2, (rN_sz (hT n (Nat.zero_le _) hn)).2.2, sh_sz hu hT hN hS (z + 1) m n hm hn hz q]
    rw [alk_nn (by omega) (by omega)]
    constructor
    · rintro ⟨q0, q1, _, q2, q3⟩
      exact hs.mpr ⟨e1.mpr q0, e2.mpr q1, e3.mpr q2, e4.mpr q3⟩
    · intro q
      obtain ⟨w1, w2, w3, w4⟩ := hs.mp q
      exact ⟨e1.mp w1, e2.mp w2, hsz q, e3.mp w3, e4.mp w4⟩
end
section
/-- how often a NODE holds one of a sort, over the class's rows and over the reference's -/
noncomputable def oneW (p : Prop) : Nat := @ite _ p (Classical.propDecidable _) 1 0
theorem oneW_y {p : Prop} (h : p) : oneW p = 1 := @if_pos _ (Classical.propDecidable _) h _ _ _
theorem oneW_n {p : Prop} (h : ¬ p) : oneW p = 0 := @if_neg _ (Classical.propDecidable _) h _ _ _
theorem oneW_e {p q : Prop} (h : p ↔ q) : oneW p = oneW q := by
  by_cases w : p
  · rw [oneW_y w, oneW_y (h.mp w)]
  · rw [oneW_n w, oneW_n (fun z => w (h.mpr z))]
noncomputable def tmC (E : Nat → Prop) (P : Nat → Nat → Int32) : Nat → Int32 → Nat
  | 0, _ => 0
  | z + 1, x => if x = m1 then 0 else oneW (E x.toNatClampNeg) + tmC E P z (P 4 x.toNatClampNeg) + tmC E P z (P 5 x.toNatClampNeg)
noncomputable def tmM (E : Nat → Prop) (A : Nat → Nat → Int32) : Nat → Int32 → Nat
  | 0, _ => 0
  | z + 1, x => if x = m2 then 0 else oneW (E x.toNatClampNeg) + tmM E A z (A 2 x.toNatClampNeg) + tmM E A z (A 3 x.toNatClampNeg)
theorem tmC_m1 (E : Nat → Prop) (P : Nat → Nat → Int32) (z : Nat) : tmC E P z m1 = 0 := by
  cases z with
  | zero => rfl
  | succ z => exact if_pos rfl
theorem tmM_m2 (E : Nat → Prop) (A : Nat → Nat → Int32) (z : Nat) : tmM E A z m2 = 0 := by
  cases z with
  | zero => rfl
  | succ z => exact if_pos rfl
theorem tmC_nI (E : Nat → Prop) (P : Nat → Nat → Int32) (z : Nat) {n : Nat} (h : n < 1000) : tmC E P (z + 1) (nI n) = oneW (E n) + tmC E P z (P 4 n) + tmC E P z (P 5 n) := by
  show (if nI n = m1 then 0 else oneW (E (nI n).toNatClampNeg) + tmC E P z (P 4 (nI n).toNatClampNeg) + tmC E P z (P 5 (nI n).toNatClampNeg)) = _
  rw [if_neg (m1_n (by omega)), nI_clamp (by omega)]
theorem tmM_nI (E : Nat → Prop) (A : Nat → Nat → Int32) (z : Nat) {n : Nat} (h : n < 450) : tmM E A (z + 1) (nI n) = oneW (E n) + tmM E A z (A 2 n) + tmM E A z (A 3 n) := by
  show (if nI n = m2 then 0 else oneW (E (nI n).toNatClampNeg) + tmM E A z (A 2 (nI n).toNatClampNeg) + tmM E A z (A 3 (nI n).toNatClampNeg)) = _
  rw [if_neg (fun q => m2_nI h q.symm), nI_clamp (by omega)]
theorem tmC_fu {E : Nat → Prop} {P : Nat → Nat → Int32} {u : Nat} (hu : u ≤ 120) (hO : ∀ n, n < u → okp n (P 4 n) ∧ okp n (P 5 n)) : ∀ (z n : Nat), n < u → n < z → tmC E P z (nI n) = tmC E P (z + 1) (nI n)
  | 0, _, _, h => absurd h (Nat.not_lt_zero _)
  | z + 1, n, hn, hz => by
    have part : ∀ x, okp n x → tmC E P z x = tmC E P (z + 1) x := by
      rintro x (e | ⟨j, hj, e⟩)
      · rw [e, show (Int32.ofInt (-1)) = m1 from rfl, tmC_m1, tmC_m1]
      · rw [e]
        exact tmC_fu hu hO z j (by omega) (by omega)
    rw [tmC_nI E P z (by omega), tmC_nI E P (z + 1) (by omega), part _ (hO n hn).1, part _ (hO n hn).2]
theorem tmC_st {E : Nat → Prop} {P : Nat → Nat → Int32} {u : Nat} (hu : u ≤ 120) (hO : ∀ n, n < u → okp n (P 4 n) ∧ okp n (P 5 n)) {n : Nat} (hn : n < u) : tmC E P 200 (nI n) = oneW (E n) + tmC E P 200 (P 4 n) + tmC E P 200 (P 5 n) := by
  rw [tmC_fu hu hO 200 n hn (by omega)]
  exact tmC_nI E P 200 (by omega)
theorem tm_same {u : Nat} (hu : u ≤ 120) {P A : Nat → Nat → Int32} (hT : tbI 0 u A) (hN : NR u P A) {E E' : Nat → Prop} (hE : ∀ n, n < u → (E n ↔ E' n)) : ∀ (z n : Nat), n < u → szN A n ≤ z → tmC E P 200 (nI n) = tmM E' A z (nI n)
  | 0, n, hn, hz => by
    have := (rN_sz (hT n (Nat.zero_le _) hn)).1
    omega
  | z + 1, n, hn, hz => by
    obtain ⟨_, _, n3, n4, _⟩ := hN n hn
    have part : ∀ x, (x = m2 ∨ ∃ a, x = nI a ∧ a < n ∧ szN A a + 1 ≤ szN A n) → tmC E P 200 (cvI x) = tmM E' A z x := by
      rintro x (e | ⟨a, e, ha, sa⟩)
      · rw [e, cvI_m2, tmC_m1, tmM_m2]
      · rw [e, cvI_nI (by omega)]
        exact tm_same hu hT hN hE z a (by omega) (by omega)
    obtain ⟨d2, d3⟩ := rN_dn (hT n (Nat.zero_le _) hn)
    rw [tmC_st hu (fun j hj => ⟨(hN j hj).2.2.2.2.2.1, (hN j hj).2.2.2.2.2.2.1⟩) hn, tmM_nI E' A z (by omega), n3, n4, part _ d2, part _ d3, oneW_e (hE n hn)]
theorem ty_of {u i : Nat} (hu : u ≤ 120) (hi : i ≤ u) {U : Int32} (hU : U = nI u) {E : Nat → Prop} {P : Nat → Nat → Int32} {R : Nat → Int32} (hR : ∀ k, k < i → R k = nI (tmC E P 200 (nI k))) {x : Int32} (hx : okp i x) {r : Option Value} (h : ((0 ≤ x.toInt ∧ x.toInt < U.toInt) ∧ r = some (.int (R x.toNatClampNeg))) ∨ (¬ (0 ≤ x.toInt ∧ x.toInt < U.toInt) ∧ r = some (.int (Int32.ofInt 0)))) : r = some (.int (nI (tmC E P 200 x))) := by
  rcases hx with e | ⟨j, hj, e⟩
  · rcases h with ⟨q, _⟩ | ⟨_, w⟩
    · rw [e] at q
      exact absurd q.1 (by decide)
    · rw [e, show (Int32.ofInt (-1)) = m1 from rfl, tmC_m1]
      exact w
  · rcases h with ⟨_, w⟩ | ⟨q, _⟩
    · rw [w, e, nI_clamp (by omega), hR j hj]
    · rw [e, hU, nI_toInt (by omega), nI_toInt (by omega)] at q
      omega
theorem tm_up {u i : Nat} (hu : u ≤ 120) (hi : i < u) {E : Nat → Prop} {P : Nat → Nat → Int32} (hO : ∀ n, n < u → okp n (P 4 n) ∧ okp n (P 5 n)) {R : Nat → Int32} (hR : ∀ k, k < i → R k = nI (tmC E P 200 (nI k))) {v : Int32} (hv : v = nI (oneW (E i)) + nI (tmC E P 200 (P 4 i)) + nI (tmC E P 200 (P 5 i))) : ∀ k, k < i + 1 → upd R (nI i).toNatClampNeg v k = nI (tmC E P 200 (nI k)) := fun k hk => by
  rw [nI_clamp (by omega)]
  by_cases e : k = i
  · rw [e, upd_self, hv, nI_add, nI_add, tmC_st hu hO hi]
  · rw [upd_ne _ _ e]
    exact hR k (by omega)
set_option maxHeartbeats 1000000 in
set_option maxRecDepth 20000 in
theorem pTimesLX (O : Nat → Int32) (P : Nat → Nat → Int32) (Y : Nat → Nat → Int64) (g : Nat → zC) {u : Nat} (hu0 : u ≤ 120) (h1 : O 1 = nI u) (hO : ∀ n, n < u → okp n (P 4 n) ∧ okp n (P 5 n)) {m : Nat} (hm : m < u) {j : Nat} (hj : j < u) {n0 : Nat} : ∀ (c i : Nat), i + c = j + 1 → ∀ {R : Nat → Int32} {x3 : Int32}, x3 = nI i → (∀ k, k < i → R k = nI (tmC (fun k => P 12 k = P 12 m) P 200 (nI k))) → zV (zMo 2 zX2_timesWithin) false n0 0 0 2 [(3, .int x3), (0, .ref 1), (1, .int (nI j)), (2, .int (nI m))] [] (wX O (updA P 13 R) Y g) (fun r w' => ∃ R' : Nat → Int32, r = some (.int (nI (tmC (fun k => P 12 k = P 12 m) P 200 (nI j)))) ∧ w' = wX O (updA P 13 R') Y g) := by
  have hu : (O 1).toInt ≤ 120 := by rw [h1, nI_toInt (by omega)]; omega
  have hy : vp_in (nI m) 120 := vp_in_nI (by omega) (by decide)
  intro c
  induction c with
  | zero =>
    intro i hc R x3 e3 hR
    subst e3
    iterate 3 (refine zv_step (bX2_timesWithin 2) rfl rfl trivial ?_)
    refine zv_ift (nI_lt (by omega) (by omega)) ?_
    iterate 3 (refine zv_step (bX2_timesWithin 2) rfl rfl trivial ?_)
    refine zv_step (bX2_timesWithin 2) rfl rfl (show vp_in (nI j) 120 from vp_in_nI (by omega) (by decide)) ?_
    exact zv_iret (bX2_timesWithin 2) rfl (Or.inl rfl) (Nat.zero_le _) (Nat.zero_le _) ⟨R, congrArg (fun v => some (Value.int v)) (show R (nI j).toNatClampNeg = _ by rw [nI_clamp (by omega)]; exact hR j (by omega)), rfl⟩
  | succ c ih =>
    intro i hc R x3 e3 hR
    subst e3
    iterate 3 (refine zv_step (bX2_timesWithin 2) rfl rfl trivial ?_)
    refine zv_iff (nI_nlt (by omega) (by omega)) ?_
    iterate 6 (refine zv_step (bX2_timesWithin 2) rfl rfl trivial ?_)
    refine zv_V2 (bX2_timesWithin 2) rfl rfl rfl rfl rfl rfl rfl ⟨rfl, rfl, rfl⟩ ⟨by decide, by decide⟩ ⟨Nat.zero_le _, Nat.zero_le _⟩ (pAlike1 O (updA P 13 R) Y g (show vp_in (nI i) 120 from vp_in_nI (by omega) (by decide)) hy) ?_
    rintro _ _ ⟨rfl, ⟨hh, rfl⟩ | ⟨hh, rfl⟩⟩
    · iterate 1 (refine zv_step (bX2_timesWithin 2) rfl rfl trivial ?_)
      refine zv_iff (by decide) ?_
      iterate 6 (refine zv_step (bX2_timesWithin 2) rfl rfl trivial ?_)
      refine zv_step (bX2_timesWithin 2) rfl rfl (show vp_in (nI i) 120 from vp_in_nI (by omega) (by decide)) ?_
      refine zv_V1 (bX2_timesWithin 2) rfl rfl rfl rfl rfl rfl rfl ⟨rfl, rfl, rfl⟩ ⟨by decide, by decide⟩ ⟨Nat.zero_le _, Nat.zero_le _⟩ (pTally1 O (updA P 13 R) Y g hu _) ?_
      rintro r _ ⟨rfl, hr⟩
      replace hr : ((0 ≤ (P 4 (nI i).toNatClampNeg).toInt ∧ (P 4 (nI i).toNatClampNeg).toInt < (O 1).toInt) ∧ r = some (.int (R (P 4 (nI i).toNatClampNeg).toNatClampNeg))) ∨ (¬ (0 ≤ (P 4 (nI i).toNatClampNeg).toInt ∧ (P 4 (nI i).toNatClampNeg).toInt < (O 1).toInt) ∧ r = some (.int (Int32.ofInt 0))) := hr
      rw [nI_clamp (show i < 2 ^ 31 by omega)] at hr
      obtain rfl := ty_of hu0 (show i ≤ u by omega) h1 hR (hO i (by omega)).1 hr
      iterate 5 (refine zv_step (bX2_timesWithin 2) rfl rfl trivial ?_)
      refine zv_step (bX2_timesWithin 2) rfl rfl (show vp_in (nI i) 120 from vp_in_nI (by omega) (by decide)) ?_
      refine zv_V1 (bX2_timesWithin 2) rfl rfl rfl rfl rfl rfl rfl ⟨rfl, rfl, rfl⟩ ⟨by decide, by decide⟩ ⟨Nat.zero_le _, Nat.zero_le _⟩ (pTally1 O (updA P 13 R) Y g hu _) ?_
      rintro r _ ⟨rfl, hr⟩
      replace hr : ((0 ≤ (P 5 (nI i).toNatClampNeg).toInt ∧ (P 5 (nI i).toNatClampNeg).toInt < (O 1).toInt) ∧ r = some (.int (R (P 5 (nI i).toNatClampNeg).toNatClampNeg))) ∨ (¬ (0 ≤ (P 5 (nI i).toNatClampNeg).toInt ∧ (P 5 (nI i).toNatClampNeg).toInt < (O 1).toInt) ∧ r = some (.int (Int32.ofInt 0))) := hr
      rw [nI_clamp (show i < 2 ^ 31 by omega)] at hr
      obtain rfl := ty_of hu0 (show i ≤ u by omega) h1 hR (hO i (by omega)).2 hr
      iterate 1 (refine zv_step (bX2_timesWithin 2) rfl rfl trivial ?_)
      refine zv_step (bX2_timesWithin 2) rfl rfl (show vp_in (nI i) 120 from vp_in_nI (by omega) (by decide)) ?_
      iterate 2 (refine zv_step (bX2_timesWithin 2) rfl rfl trivial ?_)
      replace hh : P 12 (nI i).toNatClampNeg = P 12 (nI m).toNatClampNeg := hh
      rw [nI_clamp (show i < 2 ^ 31 by omega), nI_clamp (show m < 2 ^ 31 by omega)] at hh
      exact ih (i + 1) (by omega) (R := upd R (nI i).toNatClampNeg (Int32.ofInt 1 + nI (tmC (fun k => P 12 k = P 12 m) P 200 (P 4 i)) + nI (tmC (fun k => P 12 k = P 12 m) P 200 (P 5 i)))) (nI_1 i) (tm_up hu0 (by omega) hO hR (by rw [oneW_y (p := P 12 i = P 12 m) hh]; rfl))
    · iterate 1 (refine zv_step (bX2_timesWithin 2) rfl rfl trivial ?_)
      refine zv_ift (by decide) ?_
      iterate 5 (refine zv_step (bX2_timesWithin 2) rfl rfl trivial ?_)
      refine zv_step (bX2_timesWithin 2) rfl rfl (show vp_in (nI i) 120 from vp_in_nI (by omega) (by decide)) ?_
      refine zv_V1 (bX2_timesWithin 2) rfl rfl rfl rfl rfl rfl rfl ⟨rfl, rfl, rfl⟩ ⟨by decide, by decide⟩ ⟨Nat.zero_le _, Nat.zero_le _⟩ (pTally1 O (updA P 13 R) Y g hu _) ?_
      rintro r _ ⟨rfl, hr⟩
      replace hr : ((0 ≤ (P 4 (nI i).toNatClampNeg).toInt ∧ (P 4 (nI i).toNatClampNeg).toInt < (O 1).toInt) ∧ r = some (.int (R (P 4 (nI i).toNatClampNeg).toNatClampNeg))) ∨ (¬ (0 ≤ (P 4 (nI i).toNatClampNeg).toInt ∧ (P 4 (nI i).toNatClampNeg).toInt < (O 1).toInt) ∧ r = some (.int (Int32.ofInt 0))) := hr
      rw [nI_clamp (show i < 2 ^ 31 by omega)] at hr
      obtain rfl := ty_of hu0 (show i ≤ u by omega) h1 hR (hO i (by omega)).1 hr
      iterate 5 (refine zv_step (bX2_timesWithin 2) rfl rfl trivial ?_)
      refine zv_step (bX2_timesWithin 2) rfl rfl (show vp_in (nI i) 120 from vp_in_nI (by omega) (by decide)) ?_
      refine zv_V1 (bX2_timesWithin 2) rfl rfl rfl rfl rfl rfl rfl ⟨rfl, rfl, rfl⟩ ⟨by decide, by decide⟩ ⟨Nat.zero_le _, Nat.zero_le _⟩ (pTally1 O (updA P 13 R) Y g hu _) ?_
      rintro r _ ⟨rfl, hr⟩
      replace hr : ((0 ≤ (P 5 (nI i).toNatClampNeg).toInt ∧ (P 5 (nI i).toNatClampNeg).toInt < (O 1).toInt) ∧ r = some (.int (R (P 5 (nI i).toNatClampNeg).toNatClampNeg))) ∨ (¬ (0 ≤ (P 5 (nI i).toNatClampNeg).toInt ∧ (P 5 (nI i).toNatClampNeg).toInt < (O 1).toInt) ∧ r = some (.int (Int32.ofInt 0))) := hr
      rw [nI_clamp (show i < 2 ^ 31 by omega)] at hr
      obtain rfl := ty_of hu0 (show i ≤ u by omega) h1 hR (hO i (by omega)).2 hr
      iterate 1 (refine zv_step (bX2_timesWithin 2) rfl rfl trivial ?_)
      refine zv_step (bX2_timesWithin 2) rfl rfl (show vp_in (nI i) 120 from vp_in_nI (by omega) (by decide)) ?_
      iterate 2 (refine zv_step (bX2_timesWithin 2) rfl rfl trivial ?_)
      replace hh : ¬ P 12 (nI i).toNatClampNeg = P 12 (nI m).toNatClampNeg := hh
      rw [nI_clamp (show i < 2 ^ 31 by omega), nI_clamp (show m < 2 ^ 31 by omega)] at hh
      exact ih (i + 1) (by omega) (R := upd R (nI i).toNatClampNeg (Int32.ofInt 0 + nI (tmC (fun k => P 12 k = P 12 m) P 200 (P 4 i)) + nI (tmC (fun k => P 12 k = P 12 m) P 200 (P 5 i)))) (nI_1 i) (tm_up hu0 (by omega) hO hR (by rw [oneW_n (p := P 12 i = P 12 m) hh]; rfl))
set_option maxHeartbeats 1000000 in
set_option maxRecDepth 20000 in
theorem pTimesX (O : Nat → Int32) (P : Nat → Nat → Int32) (Y : Nat → Nat → Int64) (g : Nat → zC) {u : Nat} (hu0 : u ≤ 120) (h1 : O 1 = nI u) (hO : ∀ n, n < u → okp n (P 4 n) ∧ okp n (P 5 n)) {m : Nat} (hm : m < u) {j : Nat} (hj : j < u) : zK 2 zX2_timesWithin [.ref 1, .int (nI j), .int (nI m)] (wX O P Y g) (fun r w' => ∃ R' : Nat → Int32, r = some (.int (nI (tmC (fun k => P 12 k = P 12 m) P 200 (nI j)))) ∧ w' = wX O (updA P 13 R') Y g) := by
  refine zK_of qX2_timesWithin (by decide +kernel) rfl ?_
  iterate 2 (refine zv_step (bX2_timesWithin 2) rfl rfl trivial ?_)
  exact pTimesLX O P Y g hu0 h1 hO hm hj (j + 1) 0 (by omega) (R := P 13) rfl (fun k hk => absurd hk (Nat.not_lt_zero _))
set_option maxHeartbeats 1000000 in
set_option maxRecDepth 20000 in
theorem cTimesX (O : Nat → Int32) (P : Nat → Nat → Int32) (Y : Nat → Nat → Int64) (g : Nat → zC) {u : Nat} (hu : u ≤ 120) (h1 : O 1 = nI u) (hO : ∀ n, n < u → okp n (P 4 n) ∧ okp n (P 5 n)) (x y : Int32) : zK 3 zX6_times [.ref 0, .int x, .int y] (wX O P Y g) (fun r w' => ∃ (R' : Nat → Int32) (R : Int32), r = some (.int R) ∧ w' = wX O (updA P 13 R') Y g ∧ twR u x y (fun n m => nI (tmC (fun k => P 12 k = P 12 m) P 200 (nI n))) R) := by
  refine zK_of qX6_times (by decide +kernel) rfl ?_
  iterate 3 (refine zv_step (bX6_times 3) rfl rfl trivial ?_)
  refine zv_V1 (bX6_times 3) rfl rfl rfl rfl rfl rfl rfl ⟨rfl, rfl, rfl⟩ ⟨by decide, by decide⟩ ⟨Nat.zero_le _, Nat.zero_le _⟩ (pHas1 O P Y g _) ?_
  rintro _ _ ⟨rfl, ⟨ha, rfl⟩ | ⟨ha, rfl⟩⟩
  · have ha1 : isN u x := by
      have h9 := ha
      rw [h1, nI_toInt (by omega)] at h9
      exact h9
    obtain ⟨n, hn, rfl⟩ := has_j hu h1 ha
    iterate 1 (refine zv_step (bX6_times 3) rfl rfl trivial ?_)
    refine zv_iff (by decide) ?_
    iterate 3 (refine zv_step (bX6_times 3) rfl rfl trivial ?_)
    refine zv_V1 (bX6_times 3) rfl rfl rfl rfl rfl rfl rfl ⟨rfl, rfl, rfl⟩ ⟨by decide, by decide⟩ ⟨Nat.zero_le _, Nat.zero_le _⟩ (pHas1 O P Y g _) ?_
    rintro _ _ ⟨rfl, ⟨hb, rfl⟩ | ⟨hb, rfl⟩⟩
    · have hb1 : isN u y := by
        have h9 := hb
        rw [h1, nI_toInt (by omega)] at h9
        exact h9
      obtain ⟨m, hm, rfl⟩ := has_j hu h1 hb
      iterate 1 (refine zv_step (bX6_times 3) rfl rfl trivial ?_)
      refine zv_ift (by decide) ?_
      iterate 4 (refine zv_step (bX6_times 3) rfl rfl trivial ?_)
      refine zv_V2 (bX6_times 3) rfl rfl rfl rfl rfl rfl rfl ⟨rfl, rfl, rfl⟩ ⟨by decide, by decide⟩ ⟨Nat.zero_le _, Nat.zero_le _⟩ (pTimesX O P Y g hu h1 hO hm hn) ?_
      rintro _ _ ⟨R', rfl, rfl⟩
      exact zv_iret (bX6_times 3) rfl (Or.inl rfl) (Nat.zero_le _) (Nat.zero_le _) ⟨R', _, rfl, rfl, Or.inr ⟨n, m, hn, hm, rfl, rfl, rfl⟩⟩
    · have hb1 : ¬ isN u y := fun q => hb (by rw [h1, nI_toInt (by omega)]; exact q)
      iterate 1 (refine zv_step (bX6_times 3) rfl rfl trivial ?_)
      refine zv_iff (by decide) ?_
      iterate 1 (refine zv_step (bX6_times 3) rfl rfl trivial ?_)
      exact zv_iret (bX6_times 3) rfl (Or.inl rfl) (Nat.zero_le _) (Nat.zero_le _) ⟨P 13, _, rfl, rfl, Or.inl ⟨rfl, fun q => hb1 q.2⟩⟩
  · have ha1 : ¬ isN u x := fun q => ha (by rw [h1, nI_toInt (by omega)]; exact q)
    iterate 1 (refine zv_step (bX6_times 3) rfl rfl trivial ?_)
    refine zv_ift (by decide) ?_
    iterate 1 (refine zv_step (bX6_times 3) rfl rfl trivial ?_)
    exact zv_iret (bX6_times 3) rfl (Or.inl rfl) (Nat.zero_le _) (Nat.zero_le _) ⟨P 13, _, rfl, rfl, Or.inl ⟨rfl, fun q => ha1 q.1⟩⟩
set_option maxHeartbeats 1000000 in
set_option maxRecDepth 20000 in
theorem mHasX (f : Nat → zC) (o : Nat → Int32) (A : Nat → Nat → Int32) (J : Nat → Nat → Int64) {lo hi : Nat} (hh : hi ≤ 450) (hT : tbI lo hi A) {b : Int32} (hb : pt lo hi A 40 b) : ∀ (z : Nat) (x : Int32), pt lo hi A z x → zK (z + 42) zX7_has [.ref 76, .int x, .int b] (wR f o A J) (fun r w' => w' = (wR f o A J) ∧ r = some (.int (nI (tmM (fun k => alk A 40 (nI k) b) A z x)))) := by
  intro z
  induction z with
  | zero =>
    intro x hx
    obtain rfl := pt_zero hT hx
    refine zK_of qX7_has (by decide +kernel) rfl ?_
    iterate 2 (refine zv_step (bX7_has (0 + 42)) rfl rfl trivial ?_)
    refine zv_iff (by decide) ?_
    iterate 1 (refine zv_step (bX7_has (0 + 42)) rfl rfl trivial ?_)
    exact zv_iret (bX7_has (0 + 42)) rfl (Or.inl rfl) (Nat.zero_le _) (Nat.zero_le _) ⟨rfl, congrArg (fun v => some (Value.int v)) (show nI 0 = nI _ by rw [tmM_m2])⟩
  | succ z ih =>
    intro x hx
    rcases hx with rfl | ⟨n, rfl, hlo, hn, hz⟩
    · refine zK_of qX7_has (by decide +kernel) rfl ?_
      iterate 2 (refine zv_step (bX7_has ((z + 1) + 42)) rfl rfl trivial ?_)
      refine zv_iff (by decide) ?_
      iterate 1 (refine zv_step (bX7_has ((z + 1) + 42)) rfl rfl trivial ?_)
      exact zv_iret (bX7_has ((z + 1) + 42)) rfl (Or.inl rfl) (Nat.zero_le _) (Nat.zero_le _) ⟨rfl, congrArg (fun v => some (Value.int v)) (show nI 0 = nI _ by rw [tmM_m2])⟩
    · have hN := hT n hlo hn
      have e1 : (nI n).toNatClampNeg = n := nI_clamp (by omega)
      have hv : vp_in (nI n) 450 := vp_in_nI (by omega) (by decide)
      obtain ⟨hp2, hp3⟩ := rN_parts hT hlo hn hz
      refine zK_of qX7_has (by decide +kernel) rfl ?_
      iterate 2 (refine zv_step (bX7_has ((z + 1) + 42)) rfl rfl trivial ?_)
      refine zv_ift (nI_pos' (by omega)) ?_
      iterate 3 (refine zv_step (bX7_has ((z + 1) + 42)) rfl rfl trivial ?_)
      refine zv_V2 (bX7_has ((z + 1) + 42)) rfl rfl rfl rfl rfl rfl rfl ⟨rfl, rfl, rfl⟩ ⟨by show 40 + 1 + 1 ≤ z + 1 + 42; omega, by show 8 + (3 + 11) + 64 * (40 + 1) ≤ 64 * (z + 1 + 42); omega⟩ ⟨Nat.zero_le _, Nat.zero_le _⟩ (mAlike f o A J hh hT 40 _ _ (pt_of hT hlo hn) hb) ?_
      rintro _ _ ⟨rfl, ⟨g1, rfl⟩ | ⟨g1, rfl⟩⟩
      · skip
        iterate 1 (refine zv_step (bX7_has ((z + 1) + 42)) rfl rfl trivial ?_)
        refine zv_iff (by decide) ?_
        iterate 6 (refine zv_step (bX7_has ((z + 1) + 42)) rfl rfl trivial ?_)
        refine zv_iale (bX7_has ((z + 1) + 42)) rfl rfl hv (show A 2 (nI n).toNatClampNeg = A 2 n by rw [e1]) ?_
        iterate 1 (refine zv_step (bX7_has ((z + 1) + 42)) rfl rfl trivial ?_)
        refine zv_V2 (bX7_has ((z + 1) + 42)) rfl rfl rfl rfl rfl rfl rfl ⟨rfl, rfl, rfl⟩ ⟨by show z + 42 + 1 ≤ z + 1 + 42; omega, by show 8 + (3 + 11) + 64 * (z + 42) ≤ 64 * (z + 1 + 42); omega⟩ ⟨Nat.zero_le _, Nat.zero_le _⟩ (ih _ hp2) ?_
        rintro _ _ ⟨rfl, rfl⟩
        iterate 5 (refine zv_step (bX7_has ((z + 1) + 42)) rfl rfl trivial ?_)
        refine zv_iale (bX7_has ((z + 1) + 42)) rfl rfl hv (show A 3 (nI n).toNatClampNeg = A 3 n by rw [e1]) ?_
        iterate 1 (refine zv_step (bX7_has ((z + 1) + 42)) rfl rfl trivial ?_)
        refine zv_V2 (bX7_has ((z + 1) + 42)) rfl rfl rfl rfl rfl rfl rfl ⟨rfl, rfl, rfl⟩ ⟨by show z + 42 + 1 ≤ z + 1 + 42; omega, by show 8 + (3 + 11) + 64 * (z + 42) ≤ 64 * (z + 1 + 42); omega⟩ ⟨Nat.zero_le _, Nat.zero_le _⟩ (ih _ hp3) ?_
        rintro _ _ ⟨rfl, rfl⟩
        iterate 1 (refine zv_step (bX7_has ((z + 1) + 42)) rfl rfl trivial ?_)
        exact zv_iret (bX7_has ((z + 1) + 42)) rfl (Or.inl rfl) (Nat.zero_le _) (Nat.zero_le _) ⟨rfl, congrArg (fun v => some (Value.int v)) (show nI 1 + nI _ + nI _ = _ by rw [nI_add, nI_add, tmM_nI _ A z (by omega), oneW_y (p := alk A 40 (nI n) b) g1])⟩
      · skip
        iterate 1 (refine zv_step (bX7_has ((z + 1) + 42)) rfl rfl trivial ?_)
        refine zv_ift (by decide) ?_
        iterate 5 (refine zv_step (bX7_has ((z + 1) + 42)) rfl rfl trivial ?_)
        refine zv_iale (bX7_has ((z + 1) + 42)) rfl rfl hv (show A 2 (nI n).toNatClampNeg = A 2 n by rw [e1]) ?_
        iterate 1 (refine zv_step (bX7_has ((z + 1) + 42)) rfl rfl trivial ?_)
        refine zv_V2 (bX7_has ((z + 1) + 42)) rfl rfl rfl rfl rfl rfl rfl ⟨rfl, rfl, rfl⟩ ⟨by show z + 42 + 1 ≤ z + 1 + 42; omega, by show 8 + (3 + 11) + 64 * (z + 42) ≤ 64 * (z + 1 + 42); omega⟩ ⟨Nat.zero_le _, Nat.zero_le _⟩ (ih _ hp2) ?_
        rintro _ _ ⟨rfl, rfl⟩
        iterate 5 (refine zv_step (bX7_has ((z + 1) + 42)) rfl rfl trivial ?_)
        refine zv_iale (bX7_has ((z + 1) + 42)) rfl rfl hv (show A 3 (nI n).toNatClampNeg = A 3 n by rw [e1]) ?_
        iterate 1 (refine zv_step (bX7_has ((z + 1) + 42)) rfl rfl trivial ?_)
        refine zv_V2 (bX7_has ((z + 1) + 42)) rfl rfl rfl rfl rfl rfl rfl ⟨rfl, rfl, rfl⟩ ⟨by show z + 42 + 1 ≤ z + 1 + 42; omega, by show 8 + (3 + 11) + 64 * (z + 42) ≤ 64 * (z + 1 + 42); omega⟩ ⟨Nat.zero_le _, Nat.zero_le _⟩ (ih _ hp3) ?_
        rintro _ _ ⟨rfl, rfl⟩
        iterate 1 (refine zv_step (bX7_has ((z + 1) + 42)) rfl rfl trivial ?_)
        exact zv_iret (bX7_has ((z + 1) + 42)) rfl (Or.inl rfl) (Nat.zero_le _) (Nat.zero_le _) ⟨rfl, congrArg (fun v => some (Value.int v)) (show nI 0 + nI _ + nI _ = _ by rw [nI_add, nI_add, tmM_nI _ A z (by omega), oneW_n (p := alk A 40 (nI n) b) g1])⟩
set_option maxHeartbeats 1000000 in
set_option maxRecDepth 20000 in
theorem mTimesX (f : Nat → zC) (o : Nat → Int32) (A : Nat → Nat → Int32) (J : Nat → Nat → Int64) {u : Nat} (hu : u ≤ 120) (ho : o 0 = nI u) (hT : tbI 0 u A) (x y : Int32) : zK 83 zX7_times [.ref 76, .int x, .int y] (wR f o A J) (fun r w' => w' = (wR f o A J) ∧ ∃ R : Int32, r = some (.int R) ∧ twR u x y (fun n m => nI (tmM (fun k => alk A 40 (nI k) (nI m)) A 40 (nI n))) R) := by
  refine zK_of qX7_times (by decide +kernel) rfl ?_
  iterate 2 (refine zv_step (bX7_times 83) rfl rfl trivial ?_)
  refine zv_V1 (bX7_times 83) rfl rfl rfl rfl rfl rfl rfl ⟨rfl, rfl, rfl⟩ ⟨by decide, by decide⟩ ⟨Nat.zero_le _, Nat.zero_le _⟩ (mIsNode f o A J hu ho _) ?_
  rintro _ _ ⟨rfl, ⟨g1, rfl⟩ | ⟨g1, rfl⟩⟩
  · obtain ⟨n, hn, rfl⟩ := nd_of (by omega) g1
    iterate 1 (refine zv_step (bX7_times 83) rfl rfl trivial ?_)
    refine zv_iff (by decide) ?_
    iterate 2 (refine zv_step (bX7_times 83) rfl rfl trivial ?_)
    refine zv_V1 (bX7_times 83) rfl rfl rfl rfl rfl rfl rfl ⟨rfl, rfl, rfl⟩ ⟨by decide, by decide⟩ ⟨Nat.zero_le _, Nat.zero_le _⟩ (mIsNode f o A J hu ho _) ?_
    rintro _ _ ⟨rfl, ⟨g2, rfl⟩ | ⟨g2, rfl⟩⟩
    · obtain ⟨m, hm, rfl⟩ := nd_of (by omega) g2
      iterate 1 (refine zv_step (bX7_times 83) rfl rfl trivial ?_)
      refine zv_iff (by decide) ?_
      iterate 3 (refine zv_step (bX7_times 83) rfl rfl trivial ?_)
      refine zv_V2 (bX7_times 83) rfl rfl rfl rfl rfl rfl rfl ⟨rfl, rfl, rfl⟩ ⟨by decide, by decide⟩ ⟨Nat.zero_le _, Nat.zero_le _⟩ (mHasX f o A J (by omega) hT (pt_of hT (Nat.zero_le _) hm) 40 _ (pt_of hT (Nat.zero_le _) hn)) ?_
      rintro _ _ ⟨rfl, rfl⟩
      iterate 1 (refine zv_step (bX7_times 83) rfl rfl trivial ?_)
      exact zv_iret (bX7_times 83) rfl (Or.inl rfl) (Nat.zero_le _) (Nat.zero_le _) ⟨rfl, _, rfl, Or.inr ⟨n, m, hn, hm, rfl, rfl, rfl⟩⟩
    · skip
      iterate 1 (refine zv_step (bX7_times 83) rfl rfl trivial ?_)
      refine zv_ift (by decide) ?_
      iterate 1 (refine zv_step (bX7_times 83) rfl rfl trivial ?_)
      exact zv_iret (bX7_times 83) rfl (Or.inl rfl) (Nat.zero_le _) (Nat.zero_le _) ⟨rfl, _, rfl, Or.inl ⟨rfl, fun q => g2 (by have := q.2.1; have := q.2.2; omega)⟩⟩
  · skip
    iterate 1 (refine zv_step (bX7_times 83) rfl rfl trivial ?_)
    refine zv_ift (by decide) ?_
    iterate 1 (refine zv_step (bX7_times 83) rfl rfl trivial ?_)
    exact zv_iret (bX7_times 83) rfl (Or.inl rfl) (Nat.zero_le _) (Nat.zero_le _) ⟨rfl, _, rfl, Or.inl ⟨rfl, fun q => g1 (by have := q.1.1; have := q.1.2; omega)⟩⟩
end
section
/-- the NODES are the same on both sides, and their shapes are right -/
def NS (u : Nat) (P A : Nat → Nat → Int32) : Prop := NR u P A ∧ SI 1 u P
theorem NS_fr {u : Nat} {P P' A A' : Nat → Nat → Int32} (hu : u ≤ 120) (h : NS u P A) (e : ∀ i, 2 ≤ i → i ≤ 12 → ∀ j, j < u → P' i j = P i j) (e' : ∀ r, r < 5 → ∀ j, j < u → A' r j = A r j) : NS u P' A' := ⟨NR_fr hu h.1 (fun i h1 h2 _ => e i h1 (by omega)) (fun r hr => e' r hr), SI_fr hu (NR_PO h.1) h.2 (fun i h1 h2 j hj => e i (by omega) (by omega) j hj)⟩
theorem SI_st {u : Nat} {P A A' : Nat → Nat → Int32} (hu : u < 120) (hN : NR u P A) (h : SI 1 u P) {k v x y sh : Int32} (hN' : NR (u + 1) (stC 1 P u k v x y sh) A') : SI 1 (u + 1) (stC 1 P u k v x y sh) := by
  have h0 : SI 1 u (stC 1 P u k v x y sh) := SI_fr (by omega) (NR_PO hN) h (fun i _ _ j hj => stC_ne (by omega))
  refine SI_put (X := adI 1 (nI u) (adI 1 (nI u) (putV 1 P u k v x y (owW k v) (hbW (Int16.ofInt 764).toInt32 k) (if k = 0 then Int32.ofInt 1 <<< (v &&& 31) else Int32.ofInt 0) (if k = c8 9 then Int32.ofInt 1 <<< (v &&& 31) else Int32.ofInt 0)) u x) u y) hu h0 (NR_PO hN') (fun r h1 h2 => ?_) (fun j hj => ?_) ?_
  · unfold stC
    rw [updA_ne _ _ (show r ≠ 1 + 11 by omega)]
  · unfold stC
    rw [updA_self, upd_ne _ _ (show j ≠ u by omega)]
  · unfold stC
    rw [updA_self, upd_self]
theorem NS_st {u : Nat} {P A : Nat → Nat → Int32} (hu : u < 120) (h : NS u P A) {k v x y sh : Int32} (hx : x = m2 ∨ ∃ a, a < u ∧ x = nI a) (hy : y = m2 ∨ ∃ a, a < u ∧ y = nI a) : NS (u + 1) (stC 1 P u k (cvI v) (cvI x) (cvI y) sh) (setsA A u k v x y) :=
  ⟨NR_st hu h.1 hx hy, SI_st hu h.1 h.2 (NR_st hu h.1 hx hy)⟩
theorem NS_ly {E : Nat → Nat} {G : Nat → Int32} {lt : Nat → Nat → Bool} {L : Nat → Nat → Nat} : ∀ (f i j p : Nat) (T : List (Nat × Nat)), RT E (mG E G lt L) L f i j p T → ∀ (u : Nat) (P A : Nat → Nat → Int32) (st : List Nat) (s' : (Nat → Nat → Int32) × Nat × List Nat), NS u P A → u + T.length ≤ 120 → lyC 1 T (P, u, st) s' → NS (u + T.length) s'.1 (lyM T (A, u, st)).1 ∧ s'.2 = (u + T.length, (u + T.length - 1) :: st) ∧ (lyM T (A, u, st)).2 = (u + T.length, (u + T.length - 1) :: st) ∧ 1 ≤ T.length
  | 0, _, _, _, _, h => h.elim
  | f + 1, i, j, p, T, ⟨c, q, h1, h2, h3, h4⟩ => by
    intro u P A st s' hN hu hl
    obtain ⟨w1, w2, w3⟩ := mG_pos h3
    have hc : c / 2 < 10 := by omega
    rcases h4 with ⟨a1, a2⟩ | ⟨a1, X, a2, a3⟩ | ⟨a1, a2, d, r, X, Y, b1, b2, b3, b4, b5, b6, b7⟩
    · have hv : (if c / 2 = 0 then E (i + c % 2) else nvN E (j - c % 2 - (i + c % 2)) (i + c % 2) 0) < 10000 := by
        refine isNum_E hc w1 _ ?_
        rcases (show c / 2 = 0 ∨ c / 2 = 1 by omega) with e | e
        · exact Or.inl ⟨e, by rw [if_pos e]⟩
        · exact Or.inr (Or.inl ⟨e, by rw [if_neg (by omega)]⟩)
      rw [a2] at hl hu ⊢
      obtain ⟨sh, rfl⟩ := tkC_0 a1 hl
      rw [tkM_0 a1]
      refine ⟨?_, rfl, rfl, Nat.le_refl _⟩
      have := NS_st (k := nI (c / 2)) (v := nI (if c / 2 = 0 then E (i + c % 2) else nvN E (j - c % 2 - (i + c % 2)) (i + c % 2) 0)) (sh := sh) (by have h9 : u + 1 ≤ 120 := hu; omega) hN (Or.inl rfl) (Or.inl rfl)
      rw [cvI_m2, cvI_nI (by omega)] at this
      exact this
    · have hv : E (i + c % 2) < 10000 := isNum_E hc w1 _ (Or.inr (Or.inr ⟨a1, rfl⟩))
      have hlen : T.length = X.length + 1 := by rw [a2, List.length_append]; rfl
      rw [a2] at hl
      obtain ⟨m, l1, l2⟩ := lyC_split X _ _ _ hl
      obtain ⟨n1, n2, n3, n4⟩ := NS_ly f _ _ _ X a3 u P A st m hN (by omega) l1
      obtain ⟨P1, m2'⟩ := m
      rw [show m2' = (u + X.length, (u + X.length - 1) :: st) from n2] at l2
      obtain ⟨sh, rfl⟩ := tkC_1 a1 l2
      have eM : lyM X (A, u, st) = ((lyM X (A, u, st)).1, u + X.length, (u + X.length - 1) :: st) := Prod.ext rfl n3
      rw [a2, lyM_app, eM, tkM_1 a1, ← a2, hlen]
      refine ⟨?_, rfl, rfl, by omega⟩
      have := NS_st (k := nI (c / 2)) (v := if c / 2 = 9 then nI (E (i + c % 2)) else m2) (x := nI (u + X.length - 1)) (y := m2) (sh := sh) (by omega) n1 (Or.inr ⟨u + X.length - 1, by omega, rfl⟩) (Or.inl rfl)
      have ec : cvI (if c / 2 = 9 then nI (E (i + c % 2)) else m2) = if c / 2 = 9 then nI (E (i + c % 2)) else m1 := by
        split
        · exact cvI_nI (by omega)
        · exact cvI_m2
      rw [cvI_m2, cvI_nI (by omega), ec] at this
      exact this
    · have hlen : T.length = X.length + Y.length + 1 := by rw [b5, List.length_append, List.length_append]; rfl
      rw [b5] at hl
      obtain ⟨m, l1, l3⟩ := lyC_split (X ++ Y) _ _ _ hl
      obtain ⟨m0, l1, l2⟩ := lyC_split X Y _ _ l1
      obtain ⟨n1, n2, n3, n4⟩ := NS_ly f _ _ _ X b6 u P A st m0 hN (by omega) l1
      obtain ⟨P1, m2'⟩ := m0
      rw [show m2' = (u + X.length, (u + X.length - 1) :: st) from n2] at l2
      obtain ⟨k1, k2, k3, k4⟩ := NS_ly f _ _ _ Y b7 (u + X.length) P1 (lyM X (A, u, st)).1 ((u + X.length - 1) :: st) m n1 (by omega) l2
      obtain ⟨P2, m3'⟩ := m
      rw [show m3' = (u + X.length + Y.length, (u + X.length + Y.length - 1) :: (u + X.length - 1) :: st) from k2] at l3
      obtain ⟨sh, rfl⟩ := tkC_2 a1 a2 l3
      have eM : lyM X (A, u, st) = ((lyM X (A, u, st)).1, u + X.length, (u + X.length - 1) :: st) := Prod.ext rfl n3
      have eN : lyM Y (lyM X (A, u, st)) = ((lyM Y ((lyM X (A, u, st)).1, u + X.length, (u + X.length - 1) :: st)).1, u + X.length + Y.length, (u + X.length + Y.length - 1) :: (u + X.length - 1) :: st) := by
        rw [eM]
        exact Prod.ext rfl k3
      rw [b5, lyM_app, lyM_app, eN, tkM_2 a1 a2, ← b5, hlen, show u + (X.length + Y.length + 1) = u + X.length + Y.length + 1 by omega]
      refine ⟨?_, rfl, rfl, by omega⟩
      have := NS_st (k := nI (c / 2)) (v := m2) (x := nI (u + X.length - 1)) (y := nI (u + X.length + Y.length - 1)) (sh := sh) (by omega) k1 (Or.inr ⟨u + X.length - 1, by omega, rfl⟩) (Or.inr ⟨u + X.length + Y.length - 1, by omega, rfl⟩)
      rw [cvI_m2, cvI_nI (by omega), cvI_nI (by omega)] at this
      exact this
theorem write_NS {u h : Nat} (hu : u ≤ 120) (hh : h ≤ 20) {O O' : Nat → Int32} {P P' : Nat → Nat → Int32} {o o' : Nat → Int32} {A A' : Nat → Nat → Int32} {Y : Nat → Nat → Int64} {x R R' : Int32} {z : Int64} (s : SS u h O P o A) (hD : NS u P A) (c : ∀ j, j ≠ 1 → j ≠ 2 → j ≠ 10 → j ≠ 11 → j ≠ 12 → O' j = O j) (m : ndY o u A o' A') (g : wrC O P Y (eW A) (A 6) (ltW A) u h x z O' P' R) (g' : wrM o A u h x z o' A' R') : ∃ u', u' ≤ 120 ∧ O' 1 = nI u' ∧ NS u' P' A' := by
  have same : O' 1 = nI u → (∀ i, ¬ (14 < i ∧ i ≤ 26) → P' i = P i) → ∃ u', u' ≤ 120 ∧ O' 1 = nI u' ∧ NS u' P' A' := fun e1 e => ⟨u, hu, e1, NS_fr hu hD (fun i h1 h2 j _ => by rw [e i (by omega)]) (fun r _ j hj => m.2.2.2 r j hj)⟩
  rcases g with ⟨r, q, e1, ep⟩ | ⟨sy, Y1, hs, ex, z0, hZ, g⟩
  · rcases g' with ⟨r', _, e0⟩ | ⟨s', J1, hs', ex', z0', _⟩
    · exact same e1 (fun i _ => by rw [ep])
    · exact absurd ⟨⟨by rw [ex', nI_toInt (by omega)]; omega, by rw [ex', nI_toInt (by omega)]; omega⟩, z0'⟩ q
  · rcases g' with ⟨_, q, _⟩ | ⟨s', J1, hs', ex', z0', hJ, g'⟩
    · exact absurd ⟨⟨by rw [ex, nI_toInt (by omega)]; omega, by rw [ex, nI_toInt (by omega)]; omega⟩, z0⟩ q
    · have e1 : sy = s' := (nI_eq (by omega) (by omega)).mp (ex.symm.trans ex')
      subst e1
      have ec := ct_same hh hZ hJ
      have cl := ctW_le hJ
      unfold cap at cl
      rw [ec] at g
      rcases g with ⟨r, q, e1, ep⟩ | ⟨p, T, ez, hp, hT, g⟩
      · rcases g' with ⟨r', _, e0⟩ | ⟨p', T', ez', hp', _⟩
        · exact same e1 (fun i _ => by rw [ep])
        · exact absurd (by rw [ez']; exact (lN_ltJ (by omega) (by omega)).mpr hp') q
      · rcases g' with ⟨_, q, _⟩ | ⟨p', T', ez', hp', hT', g'⟩
        · exact absurd (by rw [ez]; exact (lN_ltJ (by omega) (by omega)).mpr hp) q
        · have e2 : p = p' := (lN_eqJ (by omega) (by omega)).mp (ez.symm.trans ez')
          subst e2
          have e3 : T = T' := RT_uq 20 0 h p T T' (RT_cg (L_same hh hZ hJ) 20 0 h p T (Nat.le_refl _) hT) hT'
          subst e3
          rcases g with ⟨r, w, e1, ep⟩ | ⟨r, w, e1, ep, P1, ep1, hl⟩
          · rcases g' with ⟨r', _, e0⟩ | ⟨_, w', _⟩
            · exact same e1 ep
            · omega
          · rcases g' with ⟨_, w', _⟩ | ⟨r', _, e0, A1, ea1, eA⟩
            · omega
            · have n1 : NS u P1 A1 := NS_fr hu hD (fun i h1 h2 j _ => by rw [ep1 i (by omega)]) (fun r _ j hj => ea1 r j (by omega))
              have n2 := (NS_ly 20 0 h p T hT u P1 A1 [] _ n1 w hl).1
              refine ⟨_, w, e1, ?_⟩
              rw [eA]
              exact n2
/-- the invariant with shapes -/
def XS (O : Nat → Int32) (P A : Nat → Nat → Int32) : Prop := ∀ u, u ≤ 120 → O 1 = nI u → NS u P A
def LI5 (O : Nat → Int32) (P : Nat → Nat → Int32) (Y : Nat → Nat → Int64) (o : Nat → Int32) (A : Nat → Nat → Int32) : Prop := LI2 O P Y o A ∧ XS O P A
theorem LI5_0 : LI5 O00 P00 (fun _ _ => 0) o00 A00 := ⟨LI2_0, fun u hu e => by
  have : u = 0 := (nI_eq (by omega) (by decide)).mp e.symm
  subst this
  exact ⟨fun n hn => absurd hn (Nat.not_lt_zero n), fun n hn => absurd hn (Nat.not_lt_zero n)⟩⟩
theorem XS_of {O' : Nat → Int32} {P' A' : Nat → Nat → Int32} {u' : Nat} (hu : u' ≤ 120) (e : O' 1 = nI u') (n : NS u' P' A') : XS O' P' A' := fun u hu2 e2 => by
  have : u = u' := (nI_eq (by omega) (by omega)).mp (e2.symm.trans e)
  subst this
  exact n
theorem XS_fr {O O' : Nat → Int32} {P P' : Nat → Nat → Int32} {o o' : Nat → Int32} {A A' : Nat → Nat → Int32} {u : Nat} (hX : XS O P A) (hu : u ≤ 120) (h1 : O 1 = nI u) (c : cE O P O' P') (m : mE u o A o' A') (d : P' 12 = P 12) : XS O' P' A' := by
  refine XS_of hu (c.1.trans h1) (NS_fr hu (hX u hu h1) (fun i h1 h2 j _ => ?_) (fun r hr j hj => m.2.2.2.1 r j hr hj))
  by_cases q : i = 12
  · rw [q, d]
  · rw [c.2.2.2.1 i h1 (by omega)]
theorem LI5_fr {O O' : Nat → Int32} {P P' : Nat → Nat → Int32} {Y Y' : Nat → Nat → Int64} {o o' : Nat → Int32} {A A' : Nat → Nat → Int32} {u h d d2 : Nat} (H : LI5 O P Y o A) (hC : cI u h d O P Y) (s : SS u h O P o A) (c : cInv O' P' Y' ∧ cSt O P O' P') (m : mInv o' A' ∧ mSt A A') (ce : cE O P O' P') (me : mE u o A o' A') (dc : P' 12 = P 12) : LI5 O' P' Y' o' A' := ⟨LI2_fr H.1 hC.1 hC.2.2.2.1 s c m ce me, XS_fr H.2 hC.1 hC.2.1 ce me dc⟩
theorem NS_le {u u' : Nat} {P A : Nat → Nat → Int32} (h : NS u P A) (hu : u' ≤ u) : NS u' P A := ⟨NR_le h.1 hu, SI_le h.2 hu⟩
theorem leaf_NS {u : Nat} (hu : u < 120) {P A : Nat → Nat → Int32} (n : NS u P A) {k v sh : Int32} (g : lfG k v) : NS (u + 1) (stC 1 P u k v m1 m1 sh) (setsA A u k v m2 m2) := by
  have := NS_st (k := k) (v := v) (x := m2) (y := m2) (sh := sh) hu n (Or.inl rfl) (Or.inl rfl)
  have hv : 0 ≤ v.toInt := by
    rcases g with g | g <;> exact g.2.1
  rwa [cvI_m2, cvI_pos hv] at this
theorem node_NS {u : Nat} (hu : u < 120) {P A : Nat → Nat → Int32} (n : NS u P A) {k x y sh : Int32} (g : ndG u k x y) : NS (u + 1) (stC 1 P u k (ndv m1 k y) x (ndy m1 k y) sh) (setsA A u k (ndv m2 k y) x (ndy m2 k y)) := by
  obtain ⟨a, ha, ex⟩ := isN_n (by omega) (show isN u x from g.2.1)
  have hy : ndy m2 k y = m2 ∨ ∃ a, a < u ∧ ndy m2 k y = nI a := by
    unfold ndy
    split
    · rename_i q
      obtain ⟨b, hb, ey⟩ := isN_n (by omega) (show isN u y from g.2.2.1 q)
      exact Or.inr ⟨b, hb, ey⟩
    · exact Or.inl rfl
  have := NS_st (k := k) (v := ndv m2 k y) (x := x) (y := ndy m2 k y) (sh := sh) hu n (Or.inr ⟨a, ha, ex⟩) hy
  have e1 : cvI (ndv m2 k y) = ndv m1 k y := by
    unfold ndv
    split
    · rename_i q
      exact cvI_pos (g.2.2.2 q).1
    · exact cvI_m2
  have e2 : cvI x = x := cvI_pos g.2.1.1
  have e3 : cvI (ndy m2 k y) = ndy m1 k y := by
    unfold ndy
    split
    · rename_i q
      exact cvI_pos (g.2.2.1 q).1
    · exact cvI_m2
  rwa [e1, e2, e3] at this
theorem XS_rw {O O' : Nat → Int32} {P P' A A' : Nat → Nat → Int32} {u : Nat} (hX : XS O P A) (hu : u ≤ 120) (h1 : O 1 = nI u) (e1 : O' 1 = O 1) (e : ∀ i, 2 ≤ i → i ≤ 12 → P' i = P i) (e' : ∀ r, r < 5 → ∀ j, j < u → A' r j = A r j) : XS O' P' A' :=
  XS_of hu (e1.trans h1) (NS_fr hu (hX u hu h1) (fun i h1 h2 j _ => by rw [e i h1 h2]) e')
theorem wr_XS {O' : Nat → Int32} {P' A' : Nat → Nat → Int32} (h : ∃ u', u' ≤ 120 ∧ O' 1 = nI u' ∧ NS u' P' A') : XS O' P' A' := by
  obtain ⟨u', a, b, c⟩ := h
  exact XS_of a b c
theorem c12_sp {O O' : Nat → Int32} {P P' : Nat → Nat → Int32} (q : spT O P O' P') : P' 12 = P 12 := q.2 12 (by decide) (by decide)
theorem c12_Fr {O O' : Nat → Int32} {P P' : Nat → Nat → Int32} (q : cFr O P O' P') : P' 12 = P 12 := by rw [q.1]
theorem c12_sh {O O' : Nat → Int32} {P P' : Nat → Nat → Int32} {s : Nat} (q : shW O P s O' P') : P' 12 = P 12 := q.2.1 12 (by omega)
theorem c12_db {O O' : Nat → Int32} {P P' : Nat → Nat → Int32} {Y' : Nat → Nat → Int64} (q : dbC O P O' P' Y') : P' 12 = P 12 := q.2.2 12 (by omega)
theorem ak_same {u : Nat} (hu : u ≤ 120) {P A : Nat → Nat → Int32} (hT : tbI 0 u A) (hN : NS u P A) : ∀ n m, n < u → m < u → (P 12 n = P 12 m ↔ alk A 40 (nI n) (nI m)) := fun n m hn hm => (sh_alk hu hT hN.1 hN.2 40 n m hn hm (rN_sz (hT n (Nat.zero_le _) hn)).2.1).symm
end
section
/-! rows of trees: one way to read them; where two of them are first unlike -/
def w1 (k : Nat) : Int := if k < 2 then 1 else if k ≤ 6 then -1 else 0
end
