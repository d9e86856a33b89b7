set_option maxHeartbeats 1000000 in
set_option maxRecDepth 20000 in
theorem cGoT (O : Nat → Int32) (P : Nat → Nat → Int32) (Y : Nat → Nat → Int64) (g : Nat → zC) {u : Nat} (hu0 : u ≤ 120) (hO1 : O 1 = nI u) (hp : pgI u (P 2) (P 4) (P 5) (P 6)) {dd : Nat} (hd : dd < 40) (N D : Nat → Int32) (hb : O 13 = 0 ∨ O 13 = 1) (hr : O 13 = 1 → ∃ t, t < u ∧ rtN t dd N) (x : Int32) : zK 3 zX6_go [.ref 0, .int x] (wX (upd O 14 (nI dd)) (updA (updA P 56 N) 57 D) Y g) (fun r w' => ∃ (d' : Nat) (N' D' : Nat → Int32) (v : Int32), r = some (.int v) ∧ w' = (wX (upd O 14 (nI d')) (updA (updA P 56 N') 57 D') Y g) ∧ d' < 40 ∧ (O 13 = 1 → ∃ t, (t < u ∧ N 0 = nI t) ∧ rtN t d' N')) := by
  have hu : (O 1).toInt ≤ 120 := by rw [hO1, nI_toInt (by omega)]; omega
  refine zK_of qX6_go (by decide +kernel) rfl ?_
  iterate 2 (refine zv_step (bX6_go 3) rfl rfl trivial ?_)
  refine zv_ifb (fun h1 => ?_) (fun h1 => ?_)
  · iterate 1 (refine zv_step (bX6_go 3) rfl rfl trivial ?_)
    exact zv_iret (bX6_go 3) rfl (Or.inl rfl) (Nat.zero_le _) (Nat.zero_le _) ⟨dd, N, D, _, rfl, rfl, hd, fun h => by obtain ⟨t, ht, k⟩ := hr h; exact ⟨t, ⟨ht, k.1⟩, k⟩⟩
  · have h1a := h1
    iterate 3 (refine zv_step (bX6_go 3) rfl rfl trivial ?_)
    refine zv_ifb (fun h6 => ?_) (fun h6 => ?_)
    · iterate 2 (refine zv_step (bX6_go 3) rfl rfl trivial ?_)
      refine zv_V0 (bX6_go 3) rfl rfl rfl rfl rfl rfl rfl ⟨rfl, rfl, rfl⟩ ⟨by decide, by decide⟩ ⟨Nat.zero_le _, Nat.zero_le _⟩ (wBegun (upd O 14 (nI dd)) _ Y g hb) ?_
      rintro _ _ ⟨rfl, rfl⟩
      iterate 1 (refine zv_step (bX6_go 3) rfl rfl trivial ?_)
      refine zv_ifb (fun h18 => ?_) (fun h18 => ?_)
      · obtain ⟨k, hk, rfl⟩ : ∃ k : Nat, k < 4 ∧ x = nI k := by
          have a1 : ¬ x < 0 := h1a
          have a2 : x ≤ Int32.ofInt 3 := h6
          rw [Int32.lt_iff_toInt_lt, Int32.toInt_zero] at a1
          rw [Int32.le_iff_toInt_le, show (Int32.ofInt 3).toInt = 3 from rfl] at a2
          refine ⟨x.toInt.toNat, by omega, ?_⟩
          rw [← Int32.toInt_inj, nI_toInt (by omega)]
          omega
        clear h1a h6 h18
        rcases (show k = 0 ∨ k = 1 ∨ k = 2 ∨ k = 3 by omega) with rfl | rfl | rfl | rfl
        · iterate 1 (refine zv_step (bX6_go 3) rfl rfl trivial ?_)
          refine zv_step (bX6_go 3) rfl rfl (by decide) ?_
          iterate 7 (refine zv_step (bX6_go 3) rfl rfl trivial ?_)
          refine zv_V2 (bX6_go 3) rfl rfl rfl rfl rfl rfl rfl ⟨rfl, rfl, rfl⟩ ⟨by decide, by decide⟩ ⟨Nat.zero_le _, Nat.zero_le _⟩ (wDown O P Y g hu hd N D _) ?_
          rintro _ _ ⟨rfl, ⟨hz, rfl⟩ | ⟨hz, rfl⟩⟩
          · skip
            iterate 3 (refine zv_step (bX6_go 3) rfl rfl trivial ?_)
            refine zv_ift (rfl) ?_
            iterate 1 (refine zv_step (bX6_go 3) rfl rfl trivial ?_)
            exact zv_iret (bX6_go 3) rfl (Or.inl rfl) (Nat.zero_le _) (Nat.zero_le _) ⟨_, _, _, _, rfl, rfl, sdW_le hd, by have q := hr; intro h; obtain ⟨t, ht, k⟩ := q h; exact ⟨t, ⟨ht, k.1⟩, by rw [hO1]; exact rt_sd hu0 hp _ ht k⟩⟩
          · skip
            iterate 3 (refine zv_step (bX6_go 3) rfl rfl trivial ?_)
            refine zv_iff (by decide) ?_
            iterate 2 (refine zv_step (bX6_go 3) rfl rfl trivial ?_)
            refine zv_V0 (bX6_go 3) rfl rfl rfl rfl rfl rfl rfl ⟨rfl, rfl, rfl⟩ ⟨by decide, by decide⟩ ⟨Nat.zero_le _, Nat.zero_le _⟩ (wHere O P Y g (dd := (sdW (O 1) (P 4) (P 5) (nI 0 + Int32.ofInt 1) (dd, N, D)).1) (sdW_le hd) ((sdW (O 1) (P 4) (P 5) (nI 0 + Int32.ofInt 1) (dd, N, D)).2.1) ((sdW (O 1) (P 4) (P 5) (nI 0 + Int32.ofInt 1) (dd, N, D)).2.2)) ?_
            rintro _ _ ⟨rfl, rfl⟩
            iterate 1 (refine zv_step (bX6_go 3) rfl rfl trivial ?_)
            exact zv_iret (bX6_go 3) rfl (Or.inl rfl) (Nat.zero_le _) (Nat.zero_le _) ⟨_, _, _, _, rfl, rfl, sdW_le hd, by have q := hr; intro h; obtain ⟨t, ht, k⟩ := q h; exact ⟨t, ⟨ht, k.1⟩, by rw [hO1]; exact rt_sd hu0 hp _ ht k⟩⟩
        · iterate 1 (refine zv_step (bX6_go 3) rfl rfl trivial ?_)
          refine zv_step (bX6_go 3) rfl rfl (by decide) ?_
          iterate 7 (refine zv_step (bX6_go 3) rfl rfl trivial ?_)
          refine zv_V2 (bX6_go 3) rfl rfl rfl rfl rfl rfl rfl ⟨rfl, rfl, rfl⟩ ⟨by decide, by decide⟩ ⟨Nat.zero_le _, Nat.zero_le _⟩ (wDown O P Y g hu hd N D _) ?_
          rintro _ _ ⟨rfl, ⟨hz, rfl⟩ | ⟨hz, rfl⟩⟩
          · skip
            iterate 3 (refine zv_step (bX6_go 3) rfl rfl trivial ?_)
            refine zv_ift (rfl) ?_
            iterate 1 (refine zv_step (bX6_go 3) rfl rfl trivial ?_)
            exact zv_iret (bX6_go 3) rfl (Or.inl rfl) (Nat.zero_le _) (Nat.zero_le _) ⟨_, _, _, _, rfl, rfl, sdW_le hd, by have q := hr; intro h; obtain ⟨t, ht, k⟩ := q h; exact ⟨t, ⟨ht, k.1⟩, by rw [hO1]; exact rt_sd hu0 hp _ ht k⟩⟩
          · skip
            iterate 3 (refine zv_step (bX6_go 3) rfl rfl trivial ?_)
            refine zv_iff (by decide) ?_
            iterate 2 (refine zv_step (bX6_go 3) rfl rfl trivial ?_)
            refine zv_V0 (bX6_go 3) rfl rfl rfl rfl rfl rfl rfl ⟨rfl, rfl, rfl⟩ ⟨by decide, by decide⟩ ⟨Nat.zero_le _, Nat.zero_le _⟩ (wHere O P Y g (dd := (sdW (O 1) (P 4) (P 5) (nI 1 + Int32.ofInt 1) (dd, N, D)).1) (sdW_le hd) ((sdW (O 1) (P 4) (P 5) (nI 1 + Int32.ofInt 1) (dd, N, D)).2.1) ((sdW (O 1) (P 4) (P 5) (nI 1 + Int32.ofInt 1) (dd, N, D)).2.2)) ?_
            rintro _ _ ⟨rfl, rfl⟩
            iterate 1 (refine zv_step (bX6_go 3) rfl rfl trivial ?_)
            exact zv_iret (bX6_go 3) rfl (Or.inl rfl) (Nat.zero_le _) (Nat.zero_le _) ⟨_, _, _, _, rfl, rfl, sdW_le hd, by have q := hr; intro h; obtain ⟨t, ht, k⟩ := q h; exact ⟨t, ⟨ht, k.1⟩, by rw [hO1]; exact rt_sd hu0 hp _ ht k⟩⟩
        · iterate 1 (refine zv_step (bX6_go 3) rfl rfl trivial ?_)
          refine zv_step (bX6_go 3) rfl rfl (by decide) ?_
          iterate 2 (refine zv_step (bX6_go 3) rfl rfl trivial ?_)
          refine zv_V0 (bX6_go 3) rfl rfl rfl rfl rfl rfl rfl ⟨rfl, rfl, rfl⟩ ⟨by decide, by decide⟩ ⟨Nat.zero_le _, Nat.zero_le _⟩ (wUp O P Y g hd N D) ?_
          rintro _ _ ⟨rfl, ⟨hz, rfl⟩ | ⟨hz, rfl⟩⟩
          · skip
            iterate 4 (refine zv_step (bX6_go 3) rfl rfl trivial ?_)
            refine zv_ift (rfl) ?_
            iterate 1 (refine zv_step (bX6_go 3) rfl rfl trivial ?_)
            exact zv_iret (bX6_go 3) rfl (Or.inl rfl) (Nat.zero_le _) (Nat.zero_le _) ⟨dd - 1, N, D, _, rfl, rfl, by omega, by have q := hr; intro h; obtain ⟨t, ht, k⟩ := q h; exact ⟨t, ⟨ht, k.1⟩, rt_up k (by omega)⟩⟩
          · skip
            iterate 4 (refine zv_step (bX6_go 3) rfl rfl trivial ?_)
            refine zv_iff (by decide) ?_
            iterate 2 (refine zv_step (bX6_go 3) rfl rfl trivial ?_)
            refine zv_V0 (bX6_go 3) rfl rfl rfl rfl rfl rfl rfl ⟨rfl, rfl, rfl⟩ ⟨by decide, by decide⟩ ⟨Nat.zero_le _, Nat.zero_le _⟩ (wHere O P Y g (dd := dd - 1) (by omega) (N) (D)) ?_
            rintro _ _ ⟨rfl, rfl⟩
            iterate 1 (refine zv_step (bX6_go 3) rfl rfl trivial ?_)
            exact zv_iret (bX6_go 3) rfl (Or.inl rfl) (Nat.zero_le _) (Nat.zero_le _) ⟨dd - 1, N, D, _, rfl, rfl, by omega, by have q := hr; intro h; obtain ⟨t, ht, k⟩ := q h; exact ⟨t, ⟨ht, k.1⟩, rt_up k (by omega)⟩⟩
        · cases dd with
          | zero =>
            iterate 1 (refine zv_step (bX6_go 3) rfl rfl trivial ?_)
            refine zv_step (bX6_go 3) rfl rfl (by decide) ?_
            iterate 4 (refine zv_step (bX6_go 3) rfl rfl trivial ?_)
            refine zv_V1 (bX6_go 3) rfl rfl rfl rfl rfl rfl rfl ⟨rfl, rfl, rfl⟩ ⟨by decide, by decide⟩ ⟨Nat.zero_le _, Nat.zero_le _⟩ (wBeside0 O P Y g N D) ?_
            rintro _ _ ⟨rfl, rfl⟩
            iterate 4 (refine zv_step (bX6_go 3) rfl rfl trivial ?_)
            refine zv_ift (rfl) ?_
            iterate 1 (refine zv_step (bX6_go 3) rfl rfl trivial ?_)
            exact zv_iret (bX6_go 3) rfl (Or.inl rfl) (Nat.zero_le _) (Nat.zero_le _) ⟨0, N, D, _, rfl, rfl, by omega, fun h => by obtain ⟨t, ht, k⟩ := hr h; exact ⟨t, ⟨ht, k.1⟩, k⟩⟩
          | succ m =>
            iterate 1 (refine zv_step (bX6_go 3) rfl rfl trivial ?_)
            refine zv_step (bX6_go 3) rfl rfl (by decide) ?_
            iterate 4 (refine zv_step (bX6_go 3) rfl rfl trivial ?_)
            refine zv_V1 (bX6_go 3) rfl rfl rfl rfl rfl rfl rfl ⟨rfl, rfl, rfl⟩ ⟨by decide, by decide⟩ ⟨Nat.zero_le _, Nat.zero_le _⟩ (wBeside1 O P Y g hu hd N D) ?_
            rintro _ _ (⟨hz, rfl, rfl⟩ | ⟨hz, rfl, rfl⟩)
            · skip
              iterate 4 (refine zv_step (bX6_go 3) rfl rfl trivial ?_)
              refine zv_ift (rfl) ?_
              iterate 1 (refine zv_step (bX6_go 3) rfl rfl trivial ?_)
              exact zv_iret (bX6_go 3) rfl (Or.inl rfl) (Nat.zero_le _) (Nat.zero_le _) ⟨m + 1, N, D, _, rfl, rfl, hd, fun h => by obtain ⟨t, ht, k⟩ := hr h; exact ⟨t, ⟨ht, k.1⟩, k⟩⟩
            · skip
              iterate 4 (refine zv_step (bX6_go 3) rfl rfl trivial ?_)
              refine zv_iff (by decide) ?_
              iterate 2 (refine zv_step (bX6_go 3) rfl rfl trivial ?_)
              refine zv_V0 (bX6_go 3) rfl rfl rfl rfl rfl rfl rfl ⟨rfl, rfl, rfl⟩ ⟨by decide, by decide⟩ ⟨Nat.zero_le _, Nat.zero_le _⟩ (wHere O P Y g (dd := m + 1) (hd) (upd N (m + 1) (ptW (O 1) (P 4) (P 5) (N m) (Int32.ofInt 3 - D (m + 1)))) (upd D (m + 1) (Int32.ofInt 3 - D (m + 1)))) ?_
              rintro _ _ ⟨rfl, rfl⟩
              iterate 1 (refine zv_step (bX6_go 3) rfl rfl trivial ?_)
              exact zv_iret (bX6_go 3) rfl (Or.inl rfl) (Nat.zero_le _) (Nat.zero_le _) ⟨m + 1, _, _, _, rfl, rfl, hd, by have q := hr; intro h; obtain ⟨t, ht, k⟩ := q h; exact ⟨t, ⟨ht, k.1⟩, by rw [hO1] at hz ⊢; exact rt_set k (by omega) (by omega) (pt_ok hu0 hp k ht (by omega) hz)⟩⟩
      · iterate 1 (refine zv_step (bX6_go 3) rfl rfl trivial ?_)
        exact zv_iret (bX6_go 3) rfl (Or.inl rfl) (Nat.zero_le _) (Nat.zero_le _) ⟨dd, N, D, _, rfl, rfl, hd, fun h => by obtain ⟨t, ht, k⟩ := hr h; exact ⟨t, ⟨ht, k.1⟩, k⟩⟩
    · iterate 1 (refine zv_step (bX6_go 3) rfl rfl trivial ?_)
      exact zv_iret (bX6_go 3) rfl (Or.inl rfl) (Nat.zero_le _) (Nat.zero_le _) ⟨dd, N, D, _, rfl, rfl, hd, fun h => by obtain ⟨t, ht, k⟩ := hr h; exact ⟨t, ⟨ht, k.1⟩, k⟩⟩
set_option maxHeartbeats 1000000 in
set_option maxRecDepth 20000 in
theorem cLeadT (O : Nat → Int32) (P : Nat → Nat → Int32) (Y : Nat → Nat → Int64) (g : Nat → zC) {u : Nat} (hu0 : u ≤ 120) (h1 : O 1 = nI u) (hp : pgI u (P 2) (P 4) (P 5) (P 6)) {dd : Nat} (hb : O 13 = 0 ∨ O 13 = 1) (hr : O 13 = 1 → ∃ t, t < u ∧ rtN t dd (P 56)) (x : Int32) : zK 4 zX6_lead [.ref 0, .int x] (wX O P Y g) (fun r w' => (∃ v : Int32, r = some (.int v)) ∧ (w' = wX O P Y g ∨ ∃ (d' : Nat) (N' D' : Nat → Int32), w' = (wX (upd O 14 (nI d')) (updA (updA P 56 N') 57 D') Y g) ∧ d' < 40 ∧ (O 13 = 1 → ∃ t, (t < u ∧ P 56 0 = nI t) ∧ rtN t d' N'))) := by
  have hu : (O 1).toInt ≤ 120 := by rw [h1, nI_toInt (by omega)]; omega
  refine zK_of qX6_lead (by decide +kernel) rfl ?_
  iterate 2 (refine zv_step (bX6_lead 4) rfl rfl trivial ?_)
  refine zv_V0 (bX6_lead 4) rfl rfl rfl rfl rfl rfl rfl ⟨rfl, rfl, rfl⟩ ⟨by decide, by decide⟩ ⟨Nat.zero_le _, Nat.zero_le _⟩ (wBegun O P Y g hb) ?_
  rintro _ _ ⟨rfl, rfl⟩
  iterate 1 (refine zv_step (bX6_lead 4) rfl rfl trivial ?_)
  refine zv_ifb (fun h7 => ?_) (fun h7 => ?_)
  · iterate 5 (refine zv_step (bX6_lead 4) rfl rfl trivial ?_)
    refine zv_V2 (bX6_lead 4) rfl rfl rfl rfl rfl rfl rfl ⟨rfl, rfl, rfl⟩ ⟨by decide, by decide⟩ ⟨Nat.zero_le _, Nat.zero_le _⟩ (wFollow O P Y g hu _) ?_
    rintro _ _ (⟨hz, rfl, rfl⟩ | ⟨hz, rfl, rfl⟩)
    · have hle : (foW (O 1) (P 4) (P 5) 20 x (0, P 56, P 57)).1 < 40 := foW_le _ _ _ (show 0 < 40 by decide)
      have hk : O 13 = 1 → ∃ t, (t < u ∧ P 56 0 = nI t) ∧ rtN t (foW (O 1) (P 4) (P 5) 20 x (0, P 56, P 57)).1 (foW (O 1) (P 4) (P 5) 20 x (0, P 56, P 57)).2.1 := fun h => by
        obtain ⟨t, ht, k⟩ := hr h
        refine ⟨t, ⟨ht, k.1⟩, ?_⟩
        rw [h1]
        exact (rt_fo hu0 hp ht 20 x (0, P 56, P 57) (show 0 < 40 by decide)).2 (rt_up k (Nat.zero_le _))
      generalize (foW (O 1) (P 4) (P 5) 20 x (0, P 56, P 57)) = s at hle hk ⊢
      iterate 1 (refine zv_step (bX6_lead 4) rfl rfl trivial ?_)
      refine zv_iff (by decide) ?_
      iterate 2 (refine zv_step (bX6_lead 4) rfl rfl trivial ?_)
      refine zv_V0 (bX6_lead 4) rfl rfl rfl rfl rfl rfl rfl ⟨rfl, rfl, rfl⟩ ⟨by decide, by decide⟩ ⟨Nat.zero_le _, Nat.zero_le _⟩ (wHere O P Y g (dd := s.1) hle s.2.1 s.2.2) ?_
      rintro _ _ ⟨rfl, rfl⟩
      iterate 1 (refine zv_step (bX6_lead 4) rfl rfl trivial ?_)
      exact zv_iret (bX6_lead 4) rfl (Or.inl rfl) (Nat.zero_le _) (Nat.zero_le _) ⟨⟨_, rfl⟩, Or.inr ⟨_, _, _, rfl, hle, hk⟩⟩
    · skip
      iterate 1 (refine zv_step (bX6_lead 4) rfl rfl trivial ?_)
      refine zv_ift (rfl) ?_
      iterate 1 (refine zv_step (bX6_lead 4) rfl rfl trivial ?_)
      exact zv_iret (bX6_lead 4) rfl (Or.inl rfl) (Nat.zero_le _) (Nat.zero_le _) ⟨⟨_, rfl⟩, Or.inl rfl⟩
  · iterate 1 (refine zv_step (bX6_lead 4) rfl rfl trivial ?_)
    exact zv_iret (bX6_lead 4) rfl (Or.inl rfl) (Nat.zero_le _) (Nat.zero_le _) ⟨⟨_, rfl⟩, Or.inl rfl⟩
set_option maxHeartbeats 1000000 in
set_option maxRecDepth 20000 in
theorem mGoT (f : Nat → zC) (o : Nat → Int32) (A : Nat → Nat → Int32) (J : Nat → Nat → Int64) {u : Nat} (hu : u ≤ 120) (hT : tbI 0 u A) {d : Nat} (hd : d ≤ 39) {N : Nat → Int32} (D : Nat → Int32) (hb : o 30 = 0 ∨ o 30 = 1) (hr : o 30 = 1 → ∃ t, t < u ∧ rtM A t d N) (x : Int32) : zK 2 zX7_go [.ref 76, .int x] (wR f (upd o 33 (nI d)) (updA (updA A 20 N) 21 D) J) (fun r w' => ∃ (d' : Nat) (N' D' : Nat → Int32) (R : Int32), r = some (.int R) ∧ w' = (wR f (upd o 33 (nI d')) (updA (updA A 20 N') 21 D') J) ∧ (o 30 = 1 → ∃ t, (t < u ∧ N 0 = nI t) ∧ rtM A t d' N') ∧ d' ≤ 39) := by
  refine zK_of qX7_go (by decide +kernel) rfl ?_
  iterate 4 (refine zv_step (bX7_go 2) rfl rfl trivial ?_)
  refine zv_S3 (bX7_go 2) rfl rfl rfl rfl ⟨rfl, rfl, rfl⟩ ⟨by decide, by decide⟩ ⟨Nat.zero_le _, Nat.zero_le _⟩ (mIn _ _ _ _ (a := 0) (b := 3) (by decide) (by decide)) ?_
  rintro _ _ ⟨rfl, ⟨g1, rfl⟩ | ⟨g1, rfl⟩⟩
  · skip
    iterate 1 (refine zv_step (bX7_go 2) rfl rfl trivial ?_)
    refine zv_ift (by decide) ?_
    iterate 3 (refine zv_step (bX7_go 2) rfl rfl trivial ?_)
    refine zv_ifb (fun h18 => ?_) (fun h18 => ?_)
    · obtain ⟨t, ht, hr0⟩ := hr (hb.resolve_left h18)
      iterate 3 (refine zv_step (bX7_go 2) rfl rfl trivial ?_)
      refine zv_ifb (fun h26 => ?_) (fun h26 => ?_)
      · iterate 3 (refine zv_step (bX7_go 2) rfl rfl trivial ?_)
        refine zv_ifb (fun h56 => ?_) (fun h56 => ?_)
        · iterate 1 (refine zv_step (bX7_go 2) rfl rfl trivial ?_)
          exact zv_iret (bX7_go 2) rfl (Or.inl rfl) (Nat.zero_le _) (Nat.zero_le _) ⟨d, N, D, _, rfl, rfl, fun h => by obtain ⟨t, ht, k⟩ := hr h; exact ⟨t, ⟨ht, k.1⟩, k⟩, hd⟩
        · have d0 : d ≠ 0 := fun e => h56 (by rw [e]; rfl)
          obtain ⟨j, hj, ej, hz⟩ := hr0.2 (d - 1) (by omega)
          have em : nI d - Int32.ofInt 1 = nI (d - 1) := sub_1 (by omega)
          iterate 3 (refine zv_step (bX7_go 2) rfl rfl trivial ?_)
          refine zv_ifb (fun h61 => ?_) (fun h61 => ?_)
          · iterate 6 (refine zv_step (bX7_go 2) rfl rfl trivial ?_)
            refine zv_world (show _ = (wR f (upd o 33 (nI (d - 1))) (updA (updA A 20 N) 21 D) J) from by rw [← em]; rfl) ?_
            iterate 3 (refine zv_step (bX7_go 2) rfl rfl trivial ?_)
            refine zv_ifb (fun h98 => ?_) (fun h98 => ?_)
            · iterate 4 (refine zv_step (bX7_go 2) rfl rfl trivial ?_)
              refine zv_step (bX7_go 2) rfl rfl (show vp_in (nI (d - 1)) 41 from vp_in_nI (by omega) (by decide)) ?_
              exact zv_iret (bX7_go 2) rfl (Or.inl rfl) (Nat.zero_le _) (Nat.zero_le _) ⟨d - 1, N, D, _, rfl, rfl, fun _ => ⟨t, ⟨ht, hr0.1⟩, rtM_up hr0 (by omega)⟩, by omega⟩
            · iterate 8 (refine zv_step (bX7_go 2) rfl rfl trivial ?_)
              refine zv_step (bX7_go 2) rfl rfl (show vp_in (nI (d - 1) + Int32.ofInt 1) 41 by rw [show nI (d - 1) + Int32.ofInt 1 = nI (d - 1 + 1) from nI_1 _]; exact vp_in_nI (by omega) (by decide)) ?_
              iterate 1 (refine zv_step (bX7_go 2) rfl rfl trivial ?_)
              refine zv_V1 (bX7_go 2) rfl rfl rfl rfl rfl rfl rfl ⟨rfl, rfl, rfl⟩ ⟨by decide, by decide⟩ ⟨Nat.zero_le _, Nat.zero_le _⟩ (mDown f o A J hu hT ht D (rtM_up hr0 (show d - 1 ≤ d by omega)) _) ?_
              rintro _ _ ⟨d1, N1, D1, rfl, hr1, rfl | rfl⟩
              · have hd1 := rtM_d hT ht hr1
                iterate 5 (refine zv_step (bX7_go 2) rfl rfl trivial ?_)
                refine zv_step (bX7_go 2) rfl rfl (show vp_in (nI d1) 41 from vp_in_nI (by omega) (by decide)) ?_
                exact zv_iret (bX7_go 2) rfl (Or.inl rfl) (Nat.zero_le _) (Nat.zero_le _) ⟨d1, N1, D1, _, rfl, rfl, fun _ => ⟨t, ⟨ht, hr0.1⟩, hr1⟩, hd1⟩
              · have hd1 := rtM_d hT ht hr1
                iterate 5 (refine zv_step (bX7_go 2) rfl rfl trivial ?_)
                refine zv_step (bX7_go 2) rfl rfl (show vp_in (nI d1) 41 from vp_in_nI (by omega) (by decide)) ?_
                exact zv_iret (bX7_go 2) rfl (Or.inl rfl) (Nat.zero_le _) (Nat.zero_le _) ⟨d1, N1, D1, _, rfl, rfl, fun _ => ⟨t, ⟨ht, hr0.1⟩, hr1⟩, hd1⟩
          · iterate 8 (refine zv_step (bX7_go 2) rfl rfl trivial ?_)
            refine zv_iale (bX7_go 2) rfl rfl (show vp_in (nI d - Int32.ofInt 1) 41 by rw [em]; exact vp_in_nI (by omega) (by decide)) (show N (nI d - Int32.ofInt 1).toNatClampNeg = nI j by rw [em, nI_clamp (by omega)]; exact ej) ?_
            refine zv_step (bX7_go 2) rfl rfl (vp_in_nI (by omega) (by decide)) ?_
            iterate 1 (refine zv_step (bX7_go 2) rfl rfl trivial ?_)
            refine zv_ifb (fun h80 => ?_) (fun h80 => ?_)
            · iterate 6 (refine zv_step (bX7_go 2) rfl rfl trivial ?_)
              refine zv_world (show _ = (wR f (upd o 33 (nI (d - 1))) (updA (updA A 20 N) 21 D) J) from by rw [← em]; rfl) ?_
              iterate 3 (refine zv_step (bX7_go 2) rfl rfl trivial ?_)
              refine zv_ifb (fun h98 => ?_) (fun h98 => ?_)
              · iterate 4 (refine zv_step (bX7_go 2) rfl rfl trivial ?_)
                refine zv_step (bX7_go 2) rfl rfl (show vp_in (nI (d - 1)) 41 from vp_in_nI (by omega) (by decide)) ?_
                exact zv_iret (bX7_go 2) rfl (Or.inl rfl) (Nat.zero_le _) (Nat.zero_le _) ⟨d - 1, N, D, _, rfl, rfl, fun _ => ⟨t, ⟨ht, hr0.1⟩, rtM_up hr0 (by omega)⟩, by omega⟩
              · iterate 8 (refine zv_step (bX7_go 2) rfl rfl trivial ?_)
                refine zv_step (bX7_go 2) rfl rfl (show vp_in (nI (d - 1) + Int32.ofInt 1) 41 by rw [show nI (d - 1) + Int32.ofInt 1 = nI (d - 1 + 1) from nI_1 _]; exact vp_in_nI (by omega) (by decide)) ?_
                iterate 1 (refine zv_step (bX7_go 2) rfl rfl trivial ?_)
                refine zv_V1 (bX7_go 2) rfl rfl rfl rfl rfl rfl rfl ⟨rfl, rfl, rfl⟩ ⟨by decide, by decide⟩ ⟨Nat.zero_le _, Nat.zero_le _⟩ (mDown f o A J hu hT ht D (rtM_up hr0 (show d - 1 ≤ d by omega)) _) ?_
                rintro _ _ ⟨d1, N1, D1, rfl, hr1, rfl | rfl⟩
                · have hd1 := rtM_d hT ht hr1
                  iterate 5 (refine zv_step (bX7_go 2) rfl rfl trivial ?_)
                  refine zv_step (bX7_go 2) rfl rfl (show vp_in (nI d1) 41 from vp_in_nI (by omega) (by decide)) ?_
                  exact zv_iret (bX7_go 2) rfl (Or.inl rfl) (Nat.zero_le _) (Nat.zero_le _) ⟨d1, N1, D1, _, rfl, rfl, fun _ => ⟨t, ⟨ht, hr0.1⟩, hr1⟩, hd1⟩
                · have hd1 := rtM_d hT ht hr1
                  iterate 5 (refine zv_step (bX7_go 2) rfl rfl trivial ?_)
                  refine zv_step (bX7_go 2) rfl rfl (show vp_in (nI d1) 41 from vp_in_nI (by omega) (by decide)) ?_
                  exact zv_iret (bX7_go 2) rfl (Or.inl rfl) (Nat.zero_le _) (Nat.zero_le _) ⟨d1, N1, D1, _, rfl, rfl, fun _ => ⟨t, ⟨ht, hr0.1⟩, hr1⟩, hd1⟩
            · iterate 1 (refine zv_step (bX7_go 2) rfl rfl trivial ?_)
              exact zv_iret (bX7_go 2) rfl (Or.inl rfl) (Nat.zero_le _) (Nat.zero_le _) ⟨d, N, D, _, rfl, rfl, fun h => by obtain ⟨t, ht, k⟩ := hr h; exact ⟨t, ⟨ht, k.1⟩, k⟩, hd⟩
      · iterate 2 (refine zv_step (bX7_go 2) rfl rfl trivial ?_)
        refine zv_V1 (bX7_go 2) rfl rfl rfl rfl rfl rfl rfl ⟨rfl, rfl, rfl⟩ ⟨by decide, by decide⟩ ⟨Nat.zero_le _, Nat.zero_le _⟩ (mDown f o A J hu hT ht D hr0 _) ?_
        rintro _ _ ⟨d1, N1, D1, rfl, hr1, rfl | rfl⟩
        · have hd1 := rtM_d hT ht hr1
          iterate 1 (refine zv_step (bX7_go 2) rfl rfl trivial ?_)
          refine zv_iff (by decide) ?_
          iterate 4 (refine zv_step (bX7_go 2) rfl rfl trivial ?_)
          refine zv_step (bX7_go 2) rfl rfl (show vp_in (nI d1) 41 from vp_in_nI (by omega) (by decide)) ?_
          iterate 1 (refine zv_step (bX7_go 2) rfl rfl trivial ?_)
          exact zv_iret (bX7_go 2) rfl (Or.inl rfl) (Nat.zero_le _) (Nat.zero_le _) ⟨d1, N1, D1, _, rfl, rfl, fun _ => ⟨t, ⟨ht, hr0.1⟩, hr1⟩, hd1⟩
        · have hd1 := rtM_d hT ht hr1
          iterate 1 (refine zv_step (bX7_go 2) rfl rfl trivial ?_)
          refine zv_ift (by decide) ?_
          iterate 1 (refine zv_step (bX7_go 2) rfl rfl trivial ?_)
          exact zv_iret (bX7_go 2) rfl (Or.inl rfl) (Nat.zero_le _) (Nat.zero_le _) ⟨d1, N1, D1, _, rfl, rfl, fun _ => ⟨t, ⟨ht, hr0.1⟩, hr1⟩, hd1⟩
    · iterate 1 (refine zv_step (bX7_go 2) rfl rfl trivial ?_)
      exact zv_iret (bX7_go 2) rfl (Or.inl rfl) (Nat.zero_le _) (Nat.zero_le _) ⟨d, N, D, _, rfl, rfl, fun h => by obtain ⟨t, ht, k⟩ := hr h; exact ⟨t, ⟨ht, k.1⟩, k⟩, hd⟩
  · skip
    iterate 1 (refine zv_step (bX7_go 2) rfl rfl trivial ?_)
    refine zv_iff (by decide) ?_
    iterate 1 (refine zv_step (bX7_go 2) rfl rfl trivial ?_)
    exact zv_iret (bX7_go 2) rfl (Or.inl rfl) (Nat.zero_le _) (Nat.zero_le _) ⟨d, N, D, _, rfl, rfl, fun h => by obtain ⟨t, ht, k⟩ := hr h; exact ⟨t, ⟨ht, k.1⟩, k⟩, hd⟩
set_option maxHeartbeats 1000000 in
set_option maxRecDepth 20000 in
theorem mLeadT (f : Nat → zC) (o : Nat → Int32) (A : Nat → Nat → Int32) (J : Nat → Nat → Int64) {u : Nat} (hu : u ≤ 120) (hT : tbI 0 u A) {d : Nat} (hb : o 30 = 0 ∨ o 30 = 1) (hr : o 30 = 1 → ∃ t, t < u ∧ rtM A t d (A 20)) (x : Int32) : zK 2 zX7_lead [.ref 76, .int x] (wR f o A J) (fun r w' => (∃ R : Int32, r = some (.int R)) ∧ (w' = (wR f o A J) ∨ ∃ (d' : Nat) (N' D' : Nat → Int32), w' = (wR f (upd o 33 (nI d')) (updA (updA A 20 N') 21 D') J) ∧ (o 30 = 1 → ∃ t, (t < u ∧ A 20 0 = nI t) ∧ rtM A t d' N') ∧ d' ≤ 39)) := by
  refine zK_of qX7_lead (by decide +kernel) rfl ?_
  iterate 3 (refine zv_step (bX7_lead 2) rfl rfl trivial ?_)
  refine zv_ifb (fun h4 => ?_) (fun h4 => ?_)
  · obtain ⟨t, ht, hr0⟩ := hr (hb.resolve_left h4)
    iterate 3 (refine zv_step (bX7_lead 2) rfl rfl trivial ?_)
    refine zv_iale (bX7_lead 2) rfl rfl (show vp_in (nI 0) 41 from vp_in_nI (by decide) (by decide)) (show A 20 0 = nI t from hr0.1) ?_
    iterate 3 (refine zv_step (bX7_lead 2) rfl rfl trivial ?_)
    refine zv_weak (fun r w q => ?_) (leadL1 f o A J hu hT ht hr0 x.toInt.toNat x (nI t) (by omega) (Or.inr ⟨t, rfl, ht⟩))
    obtain ⟨e1, e2 | ⟨d1, N1, D1, e2, e3, e4⟩⟩ := q
    · exact ⟨e1, Or.inl e2⟩
    · exact ⟨e1, Or.inr ⟨d1, N1, D1, e2, fun _ => ⟨t, ⟨ht, hr0.1⟩, e3⟩, e4⟩⟩
  · iterate 1 (refine zv_step (bX7_lead 2) rfl rfl trivial ?_)
    exact zv_iret (bX7_lead 2) rfl (Or.inl rfl) (Nat.zero_le _) (Nat.zero_le _) ⟨⟨_, rfl⟩, Or.inl rfl⟩
/-- what doubt changes of the class, and of the reference -/
def dbC (O : Nat → Int32) (P : Nat → Nat → Int32) (O' : Nat → Int32) (P' : Nat → Nat → Int32) (Y' : Nat → Nat → Int64) : Prop := wyI Y' ∧ (∀ j, j ≠ 2 → j ≠ 10 → j ≠ 11 → j ≠ 12 → O' j = O j) ∧ (∀ i, ¬ (14 < i ∧ i ≤ 14 + 12) → P' i = P i)
def dbM (o : Nat → Int32) (u : Nat) (A : Nat → Nat → Int32) (o' : Nat → Int32) (A' : Nat → Nat → Int32) : Prop := (o' 0 = nI u ∧ tbI 0 u A') ∧ (∀ j, j ≠ 0 → j ≠ 28 → j ≠ 29 → o' j = o j) ∧ (∀ r, 6 ≤ r → A' r = A r) ∧ (∀ r i, i < u → A' r i = A r i)
set_option maxHeartbeats 1000000 in
set_option maxRecDepth 20000 in
theorem cDoubtT (O : Nat → Int32) (P : Nat → Nat → Int32) (Y : Nat → Nat → Int64) (g : Nat → zC) {u : Nat} (hu : u ≤ 120) (hO1 : O 1 = nI u) (hp : pgB 1 u P) (hY : wyI Y) {l : Nat} (hl : l ≤ 20) (hO : O 9 = nI l) (x : Int32) (k k2 : Int64) : zK 66 zX6_doubt [.ref 0, .int x, .long k, .long k2] (wX O P Y g) (fun r w' => ∃ (O' : Nat → Int32) (P' : Nat → Nat → Int32) (Y' : Nat → Nat → Int64) (R : Int32), r = some (.int R) ∧ w' = wX O' P' Y' g ∧ dbC O P O' P' Y') := by
  refine zK_of qX6_doubt (by decide +kernel) rfl ?_
  iterate 1 (refine zv_step (bX6_doubt 66) rfl rfl trivial ?_)
  refine zv_S1 (bX6_doubt 66) rfl rfl rfl rfl ⟨rfl, rfl, rfl⟩ ⟨by decide, by decide⟩ ⟨Nat.zero_le _, Nat.zero_le _⟩ (hX6_isStyleOrFree _ _) ?_
  rintro _ _ ⟨rfl, ⟨hx, rfl⟩ | ⟨hx, rfl⟩⟩
  · iterate 1 (refine zv_step (bX6_doubt 66) rfl rfl trivial ?_)
    refine zv_iff (by decide) ?_
    iterate 4 (refine zv_step (bX6_doubt 66) rfl rfl trivial ?_)
    refine zv_ifb (fun h1 => ?_) (fun h1 => ?_)
    · iterate 1 (refine zv_step (bX6_doubt 66) rfl rfl trivial ?_)
      exact zv_iret (bX6_doubt 66) rfl (Or.inl rfl) (Nat.zero_le _) (Nat.zero_le _) ⟨O, P, Y, _, rfl, rfl, hY, fun _ _ _ _ _ => rfl, fun _ _ => rfl⟩
    · iterate 4 (refine zv_step (bX6_doubt 66) rfl rfl trivial ?_)
      refine zv_ifb (fun h2 => ?_) (fun h2 => ?_)
      · iterate 2 (refine zv_step (bX6_doubt 66) rfl rfl trivial ?_)
        refine zv_V1 (bX6_doubt 66) rfl rfl rfl rfl rfl rfl rfl ⟨rfl, rfl, rfl⟩ ⟨by decide, by decide⟩ ⟨Nat.zero_le _, Nat.zero_le _⟩ (cTallyIn O P Y g hl hO hx) ?_
        rintro _ _ ⟨a, b, Y1, v, rfl, rfl, hw⟩
        iterate 5 (refine zv_step (bX6_doubt 66) rfl rfl trivial ?_)
        refine zv_ifb (fun h3 => ?_) (fun h3 => ?_)
        · iterate 1 (refine zv_step (bX6_doubt 66) rfl rfl trivial ?_)
          exact zv_iret (bX6_doubt 66) rfl (Or.inl rfl) (Nat.zero_le _) (Nat.zero_le _) ⟨_, P, Y1, _, rfl, rfl, hw hY, fun j b2 b3 b4 b5 => upd_3 O a b (O 0) b3 b4 b5, fun _ _ => rfl⟩
        · iterate 4 (refine zv_step (bX6_doubt 66) rfl rfl trivial ?_)
          refine zv_ifb (fun h4 => ?_) (fun h4 => ?_)
          · iterate 4 (refine zv_step (bX6_doubt 66) rfl rfl trivial ?_)
            refine zv_ifb (fun h5 => ?_) (fun h5 => ?_)
            · iterate 9 (refine zv_step (bX6_doubt 66) rfl rfl trivial ?_)
              refine zv_V2 (bX6_doubt 66) rfl rfl rfl rfl rfl rfl rfl ⟨rfl, rfl, rfl⟩ ⟨by decide, by decide⟩ ⟨Nat.zero_le _, Nat.zero_le _⟩ (hBuild14 (upd (upd (upd O 10 a) 11 b) 12 (O 0)) Y1 g (hw hY) (u := 0) (P := P) (by omega) (fun n hn => absurd hn (by omega)) hl hO _) ?_
              rintro _ _ ⟨u1, P1, R1, rfl, rfl, q1, q2, q3⟩
              iterate 6 (refine zv_step (bX6_doubt 66) rfl rfl trivial ?_)
              refine zv_V2 (bX6_doubt 66) rfl rfl rfl rfl rfl rfl rfl ⟨rfl, rfl, rfl⟩ ⟨by decide, by decide⟩ ⟨Nat.zero_le _, Nat.zero_le _⟩ (hBuild14 (upd (upd (upd O 10 a) 11 b) 12 (O 0)) Y1 g (hw hY) q1.2.1 q1.2.2.1 hl hO _) ?_
              rintro _ _ ⟨u2, P2, R2, rfl, rfl, p1, p2, p3⟩
              iterate 5 (refine zv_step (bX6_doubt 66) rfl rfl trivial ?_)
              refine zv_V2 (bX6_doubt 66) rfl rfl rfl rfl rfl rfl rfl ⟨rfl, rfl, rfl⟩ ⟨by decide, by decide⟩ ⟨Nat.zero_le _, Nat.zero_le _⟩ (pUnlike (upd (upd (upd (upd O 10 a) 11 b) 12 (O 0)) 2 (nI u2)) P2 Y1 g (show (nI u2).toInt ≤ 120 by have := p1.2.1; rw [nI_toInt (by omega)]; omega) _ _) ?_
              rintro _ _ ⟨rfl, v3, rfl⟩
              exact zv_iret (bX6_doubt 66) rfl (Or.inl rfl) (Nat.zero_le _) (Nat.zero_le _) ⟨_, P2, Y1, _, rfl, rfl, hw hY, fun j b2 b3 b4 b5 => (upd_ne _ _ b2).trans (upd_3 O a b (O 0) b3 b4 b5), (fun i hi => (p1.2.2.2.2 i hi).trans (q1.2.2.2.2 i hi))⟩
            · iterate 1 (refine zv_step (bX6_doubt 66) rfl rfl trivial ?_)
              exact zv_iret (bX6_doubt 66) rfl (Or.inl rfl) (Nat.zero_le _) (Nat.zero_le _) ⟨_, P, Y1, _, rfl, rfl, hw hY, fun j b2 b3 b4 b5 => upd_3 O a b (O 0) b3 b4 b5, fun _ _ => rfl⟩
          · iterate 1 (refine zv_step (bX6_doubt 66) rfl rfl trivial ?_)
            exact zv_iret (bX6_doubt 66) rfl (Or.inl rfl) (Nat.zero_le _) (Nat.zero_le _) ⟨_, P, Y1, _, rfl, rfl, hw hY, fun j b2 b3 b4 b5 => upd_3 O a b (O 0) b3 b4 b5, fun _ _ => rfl⟩
      · iterate 1 (refine zv_step (bX6_doubt 66) rfl rfl trivial ?_)
        exact zv_iret (bX6_doubt 66) rfl (Or.inl rfl) (Nat.zero_le _) (Nat.zero_le _) ⟨O, P, Y, _, rfl, rfl, hY, fun _ _ _ _ _ => rfl, fun _ _ => rfl⟩
  · iterate 1 (refine zv_step (bX6_doubt 66) rfl rfl trivial ?_)
    refine zv_ift (by decide) ?_
    iterate 1 (refine zv_step (bX6_doubt 66) rfl rfl trivial ?_)
    exact zv_iret (bX6_doubt 66) rfl (Or.inl rfl) (Nat.zero_le _) (Nat.zero_le _) ⟨O, P, Y, _, rfl, rfl, hY, fun _ _ _ _ _ => rfl, fun _ _ => rfl⟩

set_option maxHeartbeats 1000000 in
set_option maxRecDepth 20000 in
theorem mDoubtT (f : Nat → zC) (o : Nat → Int32) (A : Nat → Nat → Int32) (J : Nat → Nat → Int64) {u : Nat} (hu : u ≤ 120) (ho : o 0 = nI u) (hT : tbI 0 u A) {h : Nat} (hh : h ≤ 20) (hw : nnW h (A 8)) (ho10 : o 10 = nI h) (x : Int32) (z1 z2 : Int64) : zK 60 zX7_doubt [.ref 76, .int x, .long z1, .long z2] (wR f o A J) (fun r w' => ∃ (o' : Nat → Int32) (A' : Nat → Nat → Int32) (J' : Nat → Nat → Int64) (R : Int32), r = some (.int R) ∧ w' = wR f o' A' J' ∧ dbM o u A o' A') := by
  refine zK_of qX7_doubt (by decide +kernel) rfl ?_
  iterate 4 (refine zv_step (bX7_doubt 60) rfl rfl trivial ?_)
  refine zv_S3 (bX7_doubt 60) rfl rfl rfl rfl ⟨rfl, rfl, rfl⟩ ⟨by decide, by decide⟩ ⟨Nat.zero_le _, Nat.zero_le _⟩ (mIn _ _ _ _ (a := 0) (b := 8) (by decide) (by decide)) ?_
  rintro _ _ ⟨rfl, ⟨g1, rfl⟩ | ⟨g1, rfl⟩⟩
  · obtain ⟨s, hs, rfl⟩ := in_nat (x := x) (b := 8) (by decide) g1
    iterate 1 (refine zv_step (bX7_doubt 60) rfl rfl trivial ?_)
    refine zv_iff (by decide) ?_
    iterate 4 (refine zv_step (bX7_doubt 60) rfl rfl trivial ?_)
    refine zv_ifb (fun h15 => ?_) (fun h15 => ?_)
    · iterate 1 (refine zv_step (bX7_doubt 60) rfl rfl trivial ?_)
      exact zv_iret (bX7_doubt 60) rfl (Or.inl rfl) (Nat.zero_le _) (Nat.zero_le _) ⟨o, A, J, _, rfl, rfl, ⟨ho, hT⟩, fun _ _ _ _ => rfl, fun _ _ => rfl, fun _ _ _ => rfl⟩
    · have z10 : 0 ≤ z1.toInt := by
        rw [lg_cmp_lt, Int64.lt_iff_toInt_lt] at h15
        exact Int.not_lt.mp h15
      iterate 4 (refine zv_step (bX7_doubt 60) rfl rfl trivial ?_)
      refine zv_ifb (fun h22 => ?_) (fun h22 => ?_)
      · have z20 : 0 ≤ z2.toInt := by
          rw [lg_cmp_ge, Int64.le_iff_toInt_le] at h22
          exact h22
        iterate 4 (refine zv_step (bX7_doubt 60) rfl rfl trivial ?_)
        refine zv_ifb (fun h31 => ?_) (fun h31 => ?_)
        · iterate 3 (refine zv_step (bX7_doubt 60) rfl rfl trivial ?_)
          refine zv_V1 (bX7_doubt 60) rfl rfl rfl rfl rfl rfl rfl ⟨rfl, rfl, rfl⟩ ⟨by decide, by decide⟩ ⟨Nat.zero_le _, Nat.zero_le _⟩ (mCounted f o A J hh hw ho10 hs rfl) ?_
          rintro _ _ ⟨J2, rfl, rfl, hJ2⟩
          refine zv_world (show _ = wR f (upd o 28 (nI s)) A J2 from rfl) ?_
          iterate 2 (refine zv_step (bX7_doubt 60) rfl rfl trivial ?_)
          refine zv_ifb (fun h54 => ?_) (fun h54 => ?_)
          · iterate 1 (refine zv_step (bX7_doubt 60) rfl rfl trivial ?_)
            exact zv_iret (bX7_doubt 60) rfl (Or.inl rfl) (Nat.zero_le _) (Nat.zero_le _) ⟨(upd o 28 (nI s)), A, J2, _, rfl, rfl, ⟨ho, hT⟩, fun j a b c => upd_ne _ _ b, fun _ _ => rfl, fun _ _ _ => rfl⟩
          · iterate 3 (refine zv_step (bX7_doubt 60) rfl rfl trivial ?_)
            refine zv_V1 (bX7_doubt 60) rfl rfl rfl rfl rfl rfl rfl ⟨rfl, rfl, rfl⟩ ⟨by decide, by decide⟩ ⟨Nat.zero_le _, Nat.zero_le _⟩ (mCounted f (upd o 28 (nI s)) A J2 hh hw ho10 hs rfl) ?_
            rintro _ _ ⟨J3, rfl, rfl, hJ3⟩
            refine zv_world (show _ = wR f (upd o 28 (nI s)) A J3 from rfl) ?_
            iterate 2 (refine zv_step (bX7_doubt 60) rfl rfl trivial ?_)
            refine zv_ifb (fun h65 => ?_) (fun h65 => ?_)
            · obtain ⟨p1, hp1, rfl⟩ := l_nat z10 (ctW_le hJ3) (by rw [← ctW_u hJ2 hJ3]; exact Int64.not_le.mp (fun e => h54 ((lg_cmp_ge _ _).mpr e)))
              obtain ⟨p2, hp2, rfl⟩ := l_nat z20 (ctW_le hJ3) ((lg_cmp_lt _ _).mp h65)
              obtain ⟨h0, hp1⟩ := ctW_lt hp1
              obtain ⟨_, hp2⟩ := ctW_lt hp2
              iterate 3 (refine zv_step (bX7_doubt 60) rfl rfl trivial ?_)
              refine zv_world (show _ = wR f (upd (upd o 28 (nI s)) 29 (nI 0)) A J3 from rfl) ?_
              iterate 5 (refine zv_step (bX7_doubt 60) rfl rfl trivial ?_)
              refine zv_V3 (bX7_doubt 60) rfl rfl rfl rfl rfl rfl rfl ⟨rfl, rfl, rfl⟩ ⟨by show 2 * h + 3 + 1 ≤ 60; omega, by show 8 + (12 + 11) + 64 * (2 * h + 3) ≤ 64 * 60; omega⟩ ⟨Nat.zero_le _, Nat.zero_le _⟩ (mTakes f (upd o 28 (nI s)) A J3 hh hw hJ3 h 0 h p1 _ _ _ rfl ho10 rfl h0 (Nat.le_refl _) (by omega) hp1 0 A (fun _ _ => rfl) (fun n h1 h2 => absurd h2 (by omega)) (by omega)) ?_
              rintro _ _ ⟨q1, A1, rfl, rfl, k1, r1⟩
              iterate 6 (refine zv_step (bX7_doubt 60) rfl rfl trivial ?_)
              refine zv_V3 (bX7_doubt 60) rfl rfl rfl rfl rfl rfl rfl ⟨rfl, rfl, rfl⟩ ⟨by show 2 * h + 3 + 1 ≤ 60; omega, by show 8 + (12 + 11) + 64 * (2 * h + 3) ≤ 64 * 60; omega⟩ ⟨Nat.zero_le _, Nat.zero_le _⟩ (mTakes f (upd o 28 (nI s)) A J3 hh hw hJ3 h 0 h p2 _ _ _ rfl ho10 rfl h0 (Nat.le_refl _) (by omega) hp2 (q1 + 1) A1 k1.1 k1.2.1 (by have := k1.2.2.2.2.1; omega)) ?_
              rintro _ _ ⟨q2, A2, rfl, rfl, k2, r2⟩
              iterate 5 (refine zv_step (bX7_doubt 60) rfl rfl trivial ?_)
              have l1 := k1.2.2.2.2.1
              have l2 := k2.2.2.2.2.1
              have m1 := k1.2.2.2.1
              have m2' := k2.2.2.2.1
              have hne : p1 ≠ p2 := fun e => h31 ((lg_cmp_eq _ _).mpr (by rw [e]))
              have hR1 : Rd (eW A) (mW A s (lW J3)) (lW J3) A2 h 0 h p1 (400 + q1) := Rd_fr h 0 h p1 (400 + q1) (by omega) (fun r _ x _ hx => k2.2.2.1 r x (by omega)) r1
              have hun : ¬ alk A2 40 (nI (400 + q1)) (nI (400 + q2)) := fun e => hne (Rd_inj h 0 h p1 p2 (400 + q1) (400 + q2) 40 (by omega) (by omega) hR1 r2 e)
              have hs1 : szN A2 (400 + q1) ≤ 40 := (rN_sz (k2.2.1 (400 + q1) (by omega) (by omega))).2.1
              refine zv_locals (l := [(9, .int (Int32.ofInt 1)), (8, .int (Int32.ofInt 0)), (7, .int (nI (400 + q2))), (6, .int (nI (400 + q1))), (0, .ref 76), (1, .int (nI s)), (2, .long (lN p1)), (4, .long (lN p2))]) (l' := [(9, .int (Int32.ofInt 1)), (8, .int (Int32.ofInt 0)), (7, .int (nI (400 + q2))), (6, .int (nI (400 + q1))), (0, .ref 76), (1, .int (nI s)), (2, .long (lN p1)), (4, .long (lN p2))]) (fun q h => h) (dbtL f _ A2 J3 (lo := 400) (hi := 400 + (q2 + 1)) (by omega) k2.2.1 (fun v => ⟨_, A2, J3, v, rfl, rfl, ⟨ho, tbI_fr hT (fun r _ i _ hi => (k2.2.2.1 r i (by omega)).trans (k1.2.2.1 r i (by omega)))⟩, fun j a b c => by rw [upd_ne _ _ c, upd_ne _ _ b], fun r hr => (k2.1 r hr).trans (k1.1 r hr), fun r i hi => (k2.2.2.1 r i (by omega)).trans (k1.2.2.1 r i (by omega))⟩) 40 (400 + q1) (400 + q2) (by decide) (by omega) (by omega) (by omega) (by omega) hs1 hun)
            · iterate 1 (refine zv_step (bX7_doubt 60) rfl rfl trivial ?_)
              exact zv_iret (bX7_doubt 60) rfl (Or.inl rfl) (Nat.zero_le _) (Nat.zero_le _) ⟨(upd o 28 (nI s)), A, J3, _, rfl, rfl, ⟨ho, hT⟩, fun j a b c => upd_ne _ _ b, fun _ _ => rfl, fun _ _ _ => rfl⟩
        · iterate 3 (refine zv_step (bX7_doubt 60) rfl rfl trivial ?_)
          refine zv_V1 (bX7_doubt 60) rfl rfl rfl rfl rfl rfl rfl ⟨rfl, rfl, rfl⟩ ⟨by decide, by decide⟩ ⟨Nat.zero_le _, Nat.zero_le _⟩ (mCounted f o A J hh hw ho10 hs rfl) ?_
          rintro _ _ ⟨J1, rfl, rfl, hJ1⟩
          iterate 2 (refine zv_step (bX7_doubt 60) rfl rfl trivial ?_)
          refine zv_ifb (fun h41 => ?_) (fun h41 => ?_)
          · iterate 3 (refine zv_step (bX7_doubt 60) rfl rfl trivial ?_)
            refine zv_V1 (bX7_doubt 60) rfl rfl rfl rfl rfl rfl rfl ⟨rfl, rfl, rfl⟩ ⟨by decide, by decide⟩ ⟨Nat.zero_le _, Nat.zero_le _⟩ (mCounted f (upd o 28 (nI s)) A J1 hh hw ho10 hs rfl) ?_
            rintro _ _ ⟨J2, rfl, rfl, hJ2⟩
            refine zv_world (show _ = wR f (upd o 28 (nI s)) A J2 from rfl) ?_
            iterate 2 (refine zv_step (bX7_doubt 60) rfl rfl trivial ?_)
            refine zv_ift (by rw [ctW_u hJ2 hJ1]; exact h41) ?_
            iterate 1 (refine zv_step (bX7_doubt 60) rfl rfl trivial ?_)
            exact zv_iret (bX7_doubt 60) rfl (Or.inl rfl) (Nat.zero_le _) (Nat.zero_le _) ⟨(upd o 28 (nI s)), A, J2, _, rfl, rfl, ⟨ho, hT⟩, fun j a b c => upd_ne _ _ b, fun _ _ => rfl, fun _ _ _ => rfl⟩
          · iterate 1 (refine zv_step (bX7_doubt 60) rfl rfl trivial ?_)
            exact zv_iret (bX7_doubt 60) rfl (Or.inl rfl) (Nat.zero_le _) (Nat.zero_le _) ⟨(upd o 28 (nI s)), A, J1, _, rfl, rfl, ⟨ho, hT⟩, fun j a b c => upd_ne _ _ b, fun _ _ => rfl, fun _ _ _ => rfl⟩
      · iterate 1 (refine zv_step (bX7_doubt 60) rfl rfl trivial ?_)
        exact zv_iret (bX7_doubt 60) rfl (Or.inl rfl) (Nat.zero_le _) (Nat.zero_le _) ⟨o, A, J, _, rfl, rfl, ⟨ho, hT⟩, fun _ _ _ _ => rfl, fun _ _ => rfl, fun _ _ _ => rfl⟩
  · skip
    iterate 1 (refine zv_step (bX7_doubt 60) rfl rfl trivial ?_)
    refine zv_ift (by decide) ?_
    iterate 1 (refine zv_step (bX7_doubt 60) rfl rfl trivial ?_)
    exact zv_iret (bX7_doubt 60) rfl (Or.inl rfl) (Nat.zero_le _) (Nat.zero_le _) ⟨o, A, J, _, rfl, rfl, ⟨ho, hT⟩, fun _ _ _ _ => rfl, fun _ _ => rfl, fun _ _ _ => rfl⟩
