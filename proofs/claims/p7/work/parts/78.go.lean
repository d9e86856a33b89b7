def rtN (t d : Nat) (N : Nat → Int32) : Prop := N 0 = nI t ∧ ∀ i, i ≤ d → ∃ j, j ≤ t ∧ N i = nI j
theorem pt_lt {u : Nat} (hu : u ≤ 120) {P : Nat → Nat → Int32} (hp : pgI u (P 2) (P 4) (P 5) (P 6)) {j : Nat} (hj : j < u) (dg : Int32) : ptW (nI u) (P 4) (P 5) (nI j) dg = Int32.ofInt (-1) ∨ ∃ i, i < j ∧ ptW (nI u) (P 4) (P 5) (nI j) dg = nI i := by
  have e : nC (nI j) = j := nI_clamp (by omega)
  obtain ⟨_, h1, h2, _⟩ := hp j hj
  unfold ptW
  rw [e]
  split
  · split
    · exact h1
    · split
      · exact h2
      · exact Or.inl rfl
  · exact Or.inl rfl
theorem rt_up {t d d' : Nat} {N : Nat → Int32} (h : rtN t d N) (hd : d' ≤ d) : rtN t d' N := ⟨h.1, fun i hi => h.2 i (by omega)⟩
theorem rt_set {t d e : Nat} {N : Nat → Int32} {x : Int32} (h : rtN t d N) (he : e ≤ d + 1) (he0 : 1 ≤ e) (hx : ∃ j, j ≤ t ∧ x = nI j) : rtN t e (upd N e x) := by
  refine ⟨(upd_ne _ _ (by omega)).trans h.1, fun i hi => ?_⟩
  by_cases c : i = e
  · subst c
    obtain ⟨j, hj, rfl⟩ := hx
    exact ⟨j, hj, upd_self _ _ _⟩
  · obtain ⟨j, hj, e2⟩ := h.2 i (by omega)
    exact ⟨j, hj, (upd_ne _ _ c).trans e2⟩
theorem pt_ok {u t : Nat} (hu : u ≤ 120) {P : Nat → Nat → Int32} (hp : pgI u (P 2) (P 4) (P 5) (P 6)) {d i : Nat} {N : Nat → Int32} (h : rtN t d N) (ht : t < u) (hi : i ≤ d) {dg : Int32} (hn : ¬ ptW (nI u) (P 4) (P 5) (N i) dg = Int32.ofInt (-1)) : ∃ j, j ≤ t ∧ ptW (nI u) (P 4) (P 5) (N i) dg = nI j := by
  obtain ⟨j, hj, e⟩ := h.2 i hi
  rw [e] at hn ⊢
  obtain ⟨i2, h2, e2⟩ := (pt_lt hu hp (by omega) dg).resolve_left hn
  exact ⟨i2, by omega, e2⟩
theorem rt_sd {u t : Nat} (hu : u ≤ 120) {P : Nat → Nat → Int32} (hp : pgI u (P 2) (P 4) (P 5) (P 6)) {s : Nat × (Nat → Int32) × (Nat → Int32)} (dg : Int32) (ht : t < u) (h : rtN t s.1 s.2.1) : rtN t (sdW (nI u) (P 4) (P 5) dg s).1 (sdW (nI u) (P 4) (P 5) dg s).2.1 := by
  unfold sdW
  split
  · exact h
  · rename_i q
    exact rt_set h (Nat.le_refl _) (by omega) (pt_ok hu hp h ht (Nat.le_refl _) (fun e => q (Or.inl e)))
theorem rt_fo {u t : Nat} (hu : u ≤ 120) {P : Nat → Nat → Int32} (hp : pgI u (P 2) (P 4) (P 5) (P 6)) (ht : t < u) : ∀ (c : Nat) (r : Int32) (s : Nat × (Nat → Int32) × (Nat → Int32)), s.1 < 40 → (foW (nI u) (P 4) (P 5) c r s).1 < 40 ∧ (rtN t s.1 s.2.1 → rtN t (foW (nI u) (P 4) (P 5) c r s).1 (foW (nI u) (P 4) (P 5) c r s).2.1)
  | 0, r, s, hs => ⟨hs, id⟩
  | c + 1, r, s, hs => by
    rw [foW_s]
    split
    · exact ⟨hs, id⟩
    · obtain ⟨a, b⟩ := rt_fo hu hp ht c (r / Int32.ofInt 3) (sdW (nI u) (P 4) (P 5) (r - r / Int32.ofInt 3 * Int32.ofInt 3) s) (sdW_le hs)
      exact ⟨a, fun h => b (rt_sd hu hp _ ht h)⟩
theorem updA_same (A : Nat → Nat → Int32) (k : Nat) : updA A k (A k) = A := by
  funext j
  by_cases e : j = k
  · subst e
    exact updA_self _ _ _
  · exact updA_ne _ _ e
theorem wX_rt {O : Nat → Int32} (P : Nat → Nat → Int32) (Y : Nat → Nat → Int64) (g : Nat → zC) {d : Nat} (h : O 14 = nI d) : wX O P Y g = wX (upd O 14 (nI d)) (updA (updA P 56 (P 56)) 57 (P 57)) Y g := by
  rw [upd_same h, updA_same P 56, updA_same P 57]
theorem foW_le {u : Int32} {Xs Ys : Nat → Int32} : ∀ (c : Nat) (r : Int32) (s : Nat × (Nat → Int32) × (Nat → Int32)), s.1 < 40 → (foW u Xs Ys c r s).1 < 40
  | 0, r, s, hs => hs
  | c + 1, r, s, hs => by
    rw [foW_s]
    split
    · exact hs
    · exact foW_le c _ _ (sdW_le hs)
set_option maxHeartbeats 1000000 in
set_option maxRecDepth 20000 in
theorem cGo (O : Nat → Int32) (P : Nat → Nat → Int32) (Y : Nat → Nat → Int64) (g : Nat → zC) {u : Nat} (hu0 : u ≤ 120) (hO1 : O 1 = nI u) (hp : pgI u (P 2) (P 4) (P 5) (P 6)) {dd : Nat} (hd : dd < 40) (N D : Nat → Int32) (hb : O 13 = 0 ∨ O 13 = 1) (hr : O 13 = 1 → ∃ t, t < u ∧ rtN t dd N) (x : Int32) : zK 3 zX6_go [.ref 0, .int x] (wX (upd O 14 (nI dd)) (updA (updA P 56 N) 57 D) Y g) (fun r w' => ∃ (d' : Nat) (N' D' : Nat → Int32) (v : Int32), r = some (.int v) ∧ w' = (wX (upd O 14 (nI d')) (updA (updA P 56 N') 57 D') Y g) ∧ d' < 40 ∧ (O 13 = 1 → ∃ t, t < u ∧ rtN t d' N')) := by
  have hu : (O 1).toInt ≤ 120 := by rw [hO1, nI_toInt (by omega)]; omega
  refine zK_of qX6_go (by decide +kernel) rfl ?_
  iterate 2 (refine zv_step (bX6_go 3) rfl rfl trivial ?_)
  refine zv_ifb (fun h1 => ?_) (fun h1 => ?_)
  · iterate 1 (refine zv_step (bX6_go 3) rfl rfl trivial ?_)
    exact zv_iret (bX6_go 3) rfl (Or.inl rfl) (Nat.zero_le _) (Nat.zero_le _) ⟨dd, N, D, _, rfl, rfl, hd, hr⟩
  · have h1a := h1
    iterate 3 (refine zv_step (bX6_go 3) rfl rfl trivial ?_)
    refine zv_ifb (fun h6 => ?_) (fun h6 => ?_)
    · iterate 2 (refine zv_step (bX6_go 3) rfl rfl trivial ?_)
      refine zv_V0 (bX6_go 3) rfl rfl rfl rfl rfl rfl rfl ⟨rfl, rfl, rfl⟩ ⟨by decide, by decide⟩ ⟨Nat.zero_le _, Nat.zero_le _⟩ (wBegun (upd O 14 (nI dd)) _ Y g hb) ?_
      rintro _ _ ⟨rfl, rfl⟩
      iterate 1 (refine zv_step (bX6_go 3) rfl rfl trivial ?_)
      refine zv_ifb (fun h18 => ?_) (fun h18 => ?_)
      · obtain ⟨k, hk, rfl⟩ : ∃ k : Nat, k < 4 ∧ x = nI k := by
          have a1 : ¬ x < 0 := h1a
          have a2 : x ≤ Int32.ofInt 3 := h6
          rw [Int32.lt_iff_toInt_lt, Int32.toInt_zero] at a1
          rw [Int32.le_iff_toInt_le, show (Int32.ofInt 3).toInt = 3 from rfl] at a2
          refine ⟨x.toInt.toNat, by omega, ?_⟩
          rw [← Int32.toInt_inj, nI_toInt (by omega)]
          omega
        clear h1a h6 h18
        rcases (show k = 0 ∨ k = 1 ∨ k = 2 ∨ k = 3 by omega) with rfl | rfl | rfl | rfl
        · iterate 1 (refine zv_step (bX6_go 3) rfl rfl trivial ?_)
          refine zv_step (bX6_go 3) rfl rfl (by decide) ?_
          iterate 7 (refine zv_step (bX6_go 3) rfl rfl trivial ?_)
          refine zv_V2 (bX6_go 3) rfl rfl rfl rfl rfl rfl rfl ⟨rfl, rfl, rfl⟩ ⟨by decide, by decide⟩ ⟨Nat.zero_le _, Nat.zero_le _⟩ (wDown O P Y g hu hd N D _) ?_
          rintro _ _ ⟨rfl, ⟨hz, rfl⟩ | ⟨hz, rfl⟩⟩
          · skip
            iterate 3 (refine zv_step (bX6_go 3) rfl rfl trivial ?_)
            refine zv_ift (rfl) ?_
            iterate 1 (refine zv_step (bX6_go 3) rfl rfl trivial ?_)
            exact zv_iret (bX6_go 3) rfl (Or.inl rfl) (Nat.zero_le _) (Nat.zero_le _) ⟨_, _, _, _, rfl, rfl, sdW_le hd, by have q := hr; intro h; obtain ⟨t, ht, k⟩ := q h; exact ⟨t, ht, by rw [hO1]; exact rt_sd hu0 hp _ ht k⟩⟩
          · skip
            iterate 3 (refine zv_step (bX6_go 3) rfl rfl trivial ?_)
            refine zv_iff (by decide) ?_
            iterate 2 (refine zv_step (bX6_go 3) rfl rfl trivial ?_)
            refine zv_V0 (bX6_go 3) rfl rfl rfl rfl rfl rfl rfl ⟨rfl, rfl, rfl⟩ ⟨by decide, by decide⟩ ⟨Nat.zero_le _, Nat.zero_le _⟩ (wHere O P Y g (dd := (sdW (O 1) (P 4) (P 5) (nI 0 + Int32.ofInt 1) (dd, N, D)).1) (sdW_le hd) ((sdW (O 1) (P 4) (P 5) (nI 0 + Int32.ofInt 1) (dd, N, D)).2.1) ((sdW (O 1) (P 4) (P 5) (nI 0 + Int32.ofInt 1) (dd, N, D)).2.2)) ?_
            rintro _ _ ⟨rfl, rfl⟩
            iterate 1 (refine zv_step (bX6_go 3) rfl rfl trivial ?_)
            exact zv_iret (bX6_go 3) rfl (Or.inl rfl) (Nat.zero_le _) (Nat.zero_le _) ⟨_, _, _, _, rfl, rfl, sdW_le hd, by have q := hr; intro h; obtain ⟨t, ht, k⟩ := q h; exact ⟨t, ht, by rw [hO1]; exact rt_sd hu0 hp _ ht k⟩⟩
        · iterate 1 (refine zv_step (bX6_go 3) rfl rfl trivial ?_)
          refine zv_step (bX6_go 3) rfl rfl (by decide) ?_
          iterate 7 (refine zv_step (bX6_go 3) rfl rfl trivial ?_)
          refine zv_V2 (bX6_go 3) rfl rfl rfl rfl rfl rfl rfl ⟨rfl, rfl, rfl⟩ ⟨by decide, by decide⟩ ⟨Nat.zero_le _, Nat.zero_le _⟩ (wDown O P Y g hu hd N D _) ?_
          rintro _ _ ⟨rfl, ⟨hz, rfl⟩ | ⟨hz, rfl⟩⟩
          · skip
            iterate 3 (refine zv_step (bX6_go 3) rfl rfl trivial ?_)
            refine zv_ift (rfl) ?_
            iterate 1 (refine zv_step (bX6_go 3) rfl rfl trivial ?_)
            exact zv_iret (bX6_go 3) rfl (Or.inl rfl) (Nat.zero_le _) (Nat.zero_le _) ⟨_, _, _, _, rfl, rfl, sdW_le hd, by have q := hr; intro h; obtain ⟨t, ht, k⟩ := q h; exact ⟨t, ht, by rw [hO1]; exact rt_sd hu0 hp _ ht k⟩⟩
          · skip
            iterate 3 (refine zv_step (bX6_go 3) rfl rfl trivial ?_)
            refine zv_iff (by decide) ?_
            iterate 2 (refine zv_step (bX6_go 3) rfl rfl trivial ?_)
            refine zv_V0 (bX6_go 3) rfl rfl rfl rfl rfl rfl rfl ⟨rfl, rfl, rfl⟩ ⟨by decide, by decide⟩ ⟨Nat.zero_le _, Nat.zero_le _⟩ (wHere O P Y g (dd := (sdW (O 1) (P 4) (P 5) (nI 1 + Int32.ofInt 1) (dd, N, D)).1) (sdW_le hd) ((sdW (O 1) (P 4) (P 5) (nI 1 + Int32.ofInt 1) (dd, N, D)).2.1) ((sdW (O 1) (P 4) (P 5) (nI 1 + Int32.ofInt 1) (dd, N, D)).2.2)) ?_
            rintro _ _ ⟨rfl, rfl⟩
            iterate 1 (refine zv_step (bX6_go 3) rfl rfl trivial ?_)
            exact zv_iret (bX6_go 3) rfl (Or.inl rfl) (Nat.zero_le _) (Nat.zero_le _) ⟨_, _, _, _, rfl, rfl, sdW_le hd, by have q := hr; intro h; obtain ⟨t, ht, k⟩ := q h; exact ⟨t, ht, by rw [hO1]; exact rt_sd hu0 hp _ ht k⟩⟩
        · iterate 1 (refine zv_step (bX6_go 3) rfl rfl trivial ?_)
          refine zv_step (bX6_go 3) rfl rfl (by decide) ?_
          iterate 2 (refine zv_step (bX6_go 3) rfl rfl trivial ?_)
          refine zv_V0 (bX6_go 3) rfl rfl rfl rfl rfl rfl rfl ⟨rfl, rfl, rfl⟩ ⟨by decide, by decide⟩ ⟨Nat.zero_le _, Nat.zero_le _⟩ (wUp O P Y g hd N D) ?_
          rintro _ _ ⟨rfl, ⟨hz, rfl⟩ | ⟨hz, rfl⟩⟩
          · skip
            iterate 4 (refine zv_step (bX6_go 3) rfl rfl trivial ?_)
            refine zv_ift (rfl) ?_
            iterate 1 (refine zv_step (bX6_go 3) rfl rfl trivial ?_)
            exact zv_iret (bX6_go 3) rfl (Or.inl rfl) (Nat.zero_le _) (Nat.zero_le _) ⟨dd - 1, N, D, _, rfl, rfl, by omega, by have q := hr; intro h; obtain ⟨t, ht, k⟩ := q h; exact ⟨t, ht, rt_up k (by omega)⟩⟩
          · skip
            iterate 4 (refine zv_step (bX6_go 3) rfl rfl trivial ?_)
            refine zv_iff (by decide) ?_
            iterate 2 (refine zv_step (bX6_go 3) rfl rfl trivial ?_)
            refine zv_V0 (bX6_go 3) rfl rfl rfl rfl rfl rfl rfl ⟨rfl, rfl, rfl⟩ ⟨by decide, by decide⟩ ⟨Nat.zero_le _, Nat.zero_le _⟩ (wHere O P Y g (dd := dd - 1) (by omega) (N) (D)) ?_
            rintro _ _ ⟨rfl, rfl⟩
            iterate 1 (refine zv_step (bX6_go 3) rfl rfl trivial ?_)
            exact zv_iret (bX6_go 3) rfl (Or.inl rfl) (Nat.zero_le _) (Nat.zero_le _) ⟨dd - 1, N, D, _, rfl, rfl, by omega, by have q := hr; intro h; obtain ⟨t, ht, k⟩ := q h; exact ⟨t, ht, rt_up k (by omega)⟩⟩
        · cases dd with
          | zero =>
            iterate 1 (refine zv_step (bX6_go 3) rfl rfl trivial ?_)
            refine zv_step (bX6_go 3) rfl rfl (by decide) ?_
            iterate 4 (refine zv_step (bX6_go 3) rfl rfl trivial ?_)
            refine zv_V1 (bX6_go 3) rfl rfl rfl rfl rfl rfl rfl ⟨rfl, rfl, rfl⟩ ⟨by decide, by decide⟩ ⟨Nat.zero_le _, Nat.zero_le _⟩ (wBeside0 O P Y g N D) ?_
            rintro _ _ ⟨rfl, rfl⟩
            iterate 4 (refine zv_step (bX6_go 3) rfl rfl trivial ?_)
            refine zv_ift (rfl) ?_
            iterate 1 (refine zv_step (bX6_go 3) rfl rfl trivial ?_)
            exact zv_iret (bX6_go 3) rfl (Or.inl rfl) (Nat.zero_le _) (Nat.zero_le _) ⟨0, N, D, _, rfl, rfl, by omega, hr⟩
          | succ m =>
            iterate 1 (refine zv_step (bX6_go 3) rfl rfl trivial ?_)
            refine zv_step (bX6_go 3) rfl rfl (by decide) ?_
            iterate 4 (refine zv_step (bX6_go 3) rfl rfl trivial ?_)
            refine zv_V1 (bX6_go 3) rfl rfl rfl rfl rfl rfl rfl ⟨rfl, rfl, rfl⟩ ⟨by decide, by decide⟩ ⟨Nat.zero_le _, Nat.zero_le _⟩ (wBeside1 O P Y g hu hd N D) ?_
            rintro _ _ (⟨hz, rfl, rfl⟩ | ⟨hz, rfl, rfl⟩)
            · skip
              iterate 4 (refine zv_step (bX6_go 3) rfl rfl trivial ?_)
              refine zv_ift (rfl) ?_
              iterate 1 (refine zv_step (bX6_go 3) rfl rfl trivial ?_)
              exact zv_iret (bX6_go 3) rfl (Or.inl rfl) (Nat.zero_le _) (Nat.zero_le _) ⟨m + 1, N, D, _, rfl, rfl, hd, hr⟩
            · skip
              iterate 4 (refine zv_step (bX6_go 3) rfl rfl trivial ?_)
              refine zv_iff (by decide) ?_
              iterate 2 (refine zv_step (bX6_go 3) rfl rfl trivial ?_)
              refine zv_V0 (bX6_go 3) rfl rfl rfl rfl rfl rfl rfl ⟨rfl, rfl, rfl⟩ ⟨by decide, by decide⟩ ⟨Nat.zero_le _, Nat.zero_le _⟩ (wHere O P Y g (dd := m + 1) (hd) (upd N (m + 1) (ptW (O 1) (P 4) (P 5) (N m) (Int32.ofInt 3 - D (m + 1)))) (upd D (m + 1) (Int32.ofInt 3 - D (m + 1)))) ?_
              rintro _ _ ⟨rfl, rfl⟩
              iterate 1 (refine zv_step (bX6_go 3) rfl rfl trivial ?_)
              exact zv_iret (bX6_go 3) rfl (Or.inl rfl) (Nat.zero_le _) (Nat.zero_le _) ⟨m + 1, _, _, _, rfl, rfl, hd, by have q := hr; intro h; obtain ⟨t, ht, k⟩ := q h; exact ⟨t, ht, by rw [hO1] at hz ⊢; exact rt_set k (by omega) (by omega) (pt_ok hu0 hp k ht (by omega) hz)⟩⟩
      · iterate 1 (refine zv_step (bX6_go 3) rfl rfl trivial ?_)
        exact zv_iret (bX6_go 3) rfl (Or.inl rfl) (Nat.zero_le _) (Nat.zero_le _) ⟨dd, N, D, _, rfl, rfl, hd, hr⟩
    · iterate 1 (refine zv_step (bX6_go 3) rfl rfl trivial ?_)
      exact zv_iret (bX6_go 3) rfl (Or.inl rfl) (Nat.zero_le _) (Nat.zero_le _) ⟨dd, N, D, _, rfl, rfl, hd, hr⟩
set_option maxHeartbeats 1000000 in
set_option maxRecDepth 20000 in
theorem cLead (O : Nat → Int32) (P : Nat → Nat → Int32) (Y : Nat → Nat → Int64) (g : Nat → zC) {u : Nat} (hu0 : u ≤ 120) (h1 : O 1 = nI u) (hp : pgI u (P 2) (P 4) (P 5) (P 6)) {dd : Nat} (hb : O 13 = 0 ∨ O 13 = 1) (hr : O 13 = 1 → ∃ t, t < u ∧ rtN t dd (P 56)) (x : Int32) : zK 4 zX6_lead [.ref 0, .int x] (wX O P Y g) (fun r w' => (∃ v : Int32, r = some (.int v)) ∧ (w' = wX O P Y g ∨ ∃ (d' : Nat) (N' D' : Nat → Int32), w' = (wX (upd O 14 (nI d')) (updA (updA P 56 N') 57 D') Y g) ∧ d' < 40 ∧ (O 13 = 1 → ∃ t, t < u ∧ rtN t d' N'))) := by
  have hu : (O 1).toInt ≤ 120 := by rw [h1, nI_toInt (by omega)]; omega
  refine zK_of qX6_lead (by decide +kernel) rfl ?_
  iterate 2 (refine zv_step (bX6_lead 4) rfl rfl trivial ?_)
  refine zv_V0 (bX6_lead 4) rfl rfl rfl rfl rfl rfl rfl ⟨rfl, rfl, rfl⟩ ⟨by decide, by decide⟩ ⟨Nat.zero_le _, Nat.zero_le _⟩ (wBegun O P Y g hb) ?_
  rintro _ _ ⟨rfl, rfl⟩
  iterate 1 (refine zv_step (bX6_lead 4) rfl rfl trivial ?_)
  refine zv_ifb (fun h7 => ?_) (fun h7 => ?_)
  · iterate 5 (refine zv_step (bX6_lead 4) rfl rfl trivial ?_)
    refine zv_V2 (bX6_lead 4) rfl rfl rfl rfl rfl rfl rfl ⟨rfl, rfl, rfl⟩ ⟨by decide, by decide⟩ ⟨Nat.zero_le _, Nat.zero_le _⟩ (wFollow O P Y g hu _) ?_
    rintro _ _ (⟨hz, rfl, rfl⟩ | ⟨hz, rfl, rfl⟩)
    · have hle : (foW (O 1) (P 4) (P 5) 20 x (0, P 56, P 57)).1 < 40 := foW_le _ _ _ (show 0 < 40 by decide)
      have hk : O 13 = 1 → ∃ t, t < u ∧ rtN t (foW (O 1) (P 4) (P 5) 20 x (0, P 56, P 57)).1 (foW (O 1) (P 4) (P 5) 20 x (0, P 56, P 57)).2.1 := fun h => by
        obtain ⟨t, ht, k⟩ := hr h
        refine ⟨t, ht, ?_⟩
        rw [h1]
        exact (rt_fo hu0 hp ht 20 x (0, P 56, P 57) (show 0 < 40 by decide)).2 (rt_up k (Nat.zero_le _))
      generalize (foW (O 1) (P 4) (P 5) 20 x (0, P 56, P 57)) = s at hle hk ⊢
      iterate 1 (refine zv_step (bX6_lead 4) rfl rfl trivial ?_)
      refine zv_iff (by decide) ?_
      iterate 2 (refine zv_step (bX6_lead 4) rfl rfl trivial ?_)
      refine zv_V0 (bX6_lead 4) rfl rfl rfl rfl rfl rfl rfl ⟨rfl, rfl, rfl⟩ ⟨by decide, by decide⟩ ⟨Nat.zero_le _, Nat.zero_le _⟩ (wHere O P Y g (dd := s.1) hle s.2.1 s.2.2) ?_
      rintro _ _ ⟨rfl, rfl⟩
      iterate 1 (refine zv_step (bX6_lead 4) rfl rfl trivial ?_)
      exact zv_iret (bX6_lead 4) rfl (Or.inl rfl) (Nat.zero_le _) (Nat.zero_le _) ⟨⟨_, rfl⟩, Or.inr ⟨_, _, _, rfl, hle, hk⟩⟩
    · skip
      iterate 1 (refine zv_step (bX6_lead 4) rfl rfl trivial ?_)
      refine zv_ift (rfl) ?_
      iterate 1 (refine zv_step (bX6_lead 4) rfl rfl trivial ?_)
      exact zv_iret (bX6_lead 4) rfl (Or.inl rfl) (Nat.zero_le _) (Nat.zero_le _) ⟨⟨_, rfl⟩, Or.inl rfl⟩
  · iterate 1 (refine zv_step (bX6_lead 4) rfl rfl trivial ?_)
    exact zv_iret (bX6_lead 4) rfl (Or.inl rfl) (Nat.zero_le _) (Nat.zero_le _) ⟨⟨_, rfl⟩, Or.inl rfl⟩
set_option maxHeartbeats 1000000 in
set_option maxRecDepth 20000 in
theorem wHereG (O : Nat → Int32) (P : Nat → Nat → Int32) (Y : Nat → Nat → Int64) (g : Nat → zC) {dd : Nat} (hd : dd < 40) (h14 : O 14 = nI dd) : zK 0 zX5_here [.ref 55] (wX O P Y g) (fun r w' => w' = wX O P Y g ∧ r = some (.int (P 56 dd))) := by
  refine zK_of qX5_here (by decide +kernel) rfl ?_
  iterate 4 (refine zv_step (bX5_here 0) rfl rfl trivial ?_)
  refine zv_iale (bX5_here 0) rfl rfl (show vp_in (O 14) 40 by rw [h14]; exact vp_in_nI hd (by decide)) (show P 56 (O 14).toNatClampNeg = P 56 dd by rw [h14, nI_clamp (by omega)]) ?_
  exact zv_iret (bX5_here 0) rfl (Or.inl rfl) (Nat.zero_le _) (Nat.zero_le _) ⟨rfl, rfl⟩
