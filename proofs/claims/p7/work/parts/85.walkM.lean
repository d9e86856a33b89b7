/-- the walk: its top, and each NODE gone through, its SIZE and how deep -/
def rtM (A : Nat → Nat → Int32) (t d : Nat) (N : Nat → Int32) : Prop := N 0 = nI t ∧ ∀ i, i ≤ d → ∃ j, j ≤ t ∧ N i = nI j ∧ szN A j + i ≤ 40
theorem rtM_up {A : Nat → Nat → Int32} {t d d' : Nat} {N : Nat → Int32} (h : rtM A t d N) (hd : d' ≤ d) : rtM A t d' N := ⟨h.1, fun i hi => h.2 i (by omega)⟩
theorem rtM_set {A : Nat → Nat → Int32} {t d : Nat} {N : Nat → Int32} (h : rtM A t d N) {a : Nat} (ha : a ≤ t) (hz : szN A a + (d + 1) ≤ 40) : rtM A t (d + 1) (upd N (d + 1) (nI a)) := by
  refine ⟨(upd_ne _ _ (by omega)).trans h.1, fun i hi => ?_⟩
  by_cases c : i = d + 1
  · subst c
    exact ⟨a, ha, upd_self _ _ _, hz⟩
  · obtain ⟨j, hj, e2, hz2⟩ := h.2 i (by omega)
    exact ⟨j, hj, (upd_ne _ _ c).trans e2, hz2⟩
theorem rtM_d {A : Nat → Nat → Int32} {u t d : Nat} {N : Nat → Int32} (hT : tbI 0 u A) (ht : t < u) (h : rtM A t d N) : d ≤ 39 := by
  obtain ⟨j, hj, _, hz⟩ := h.2 d (Nat.le_refl _)
  have := (rN_sz (hT j (Nat.zero_le _) (by omega))).1
  omega
theorem rN_dn {lo n : Nat} {A : Nat → Nat → Int32} (h : rN lo A n) : (A 2 n = m2 ∨ ∃ a, A 2 n = nI a ∧ a < n ∧ szN A a + 1 ≤ szN A n) ∧ (A 3 n = m2 ∨ ∃ a, A 3 n = nI a ∧ a < n ∧ szN A a + 1 ≤ szN A n) := by
  obtain ⟨k, y, _, _, h4, hy, hs, _⟩ := h
  rw [szN_of h4 hy]
  rcases hs with ⟨_, h2, h3, e⟩ | ⟨_, _, a, b, h2, la, ha, h3, lb, hb, e⟩ | ⟨_, a, h2, la, ha, h3, e⟩
  · exact ⟨Or.inl h2, Or.inl h3⟩
  · exact ⟨Or.inr ⟨a, h2, ha, by omega⟩, Or.inr ⟨b, h3, hb, by omega⟩⟩
  · exact ⟨Or.inr ⟨a, h2, ha, by omega⟩, Or.inl h3⟩
set_option maxHeartbeats 1000000 in
set_option maxRecDepth 20000 in
theorem mWalk (f : Nat → zC) (o : Nat → Int32) (A : Nat → Nat → Int32) (J : Nat → Nat → Int64) {u : Nat} (hu : u ≤ 120) (ho : o 0 = nI u) (x : Int32) : zK 2 zX7_walk [.ref 76, .int x] (wR f o A J) (fun r w' => (∃ R : Int32, r = some (.int R)) ∧ (w' = (wR f o A J) ∨ ∃ n : Nat, n < u ∧ w' = wR f (upd (upd o 30 (Int32.ofInt 1)) 33 (Int32.ofInt 0)) (updA A 20 (upd (A 20) 0 (nI n))) J)) := by
  refine zK_of qX7_walk (by decide +kernel) rfl ?_
  iterate 2 (refine zv_step (bX7_walk 2) rfl rfl trivial ?_)
  refine zv_V1 (bX7_walk 2) rfl rfl rfl rfl rfl rfl rfl ⟨rfl, rfl, rfl⟩ ⟨by decide, by decide⟩ ⟨Nat.zero_le _, Nat.zero_le _⟩ (mIsNode f o A J hu ho _) ?_
  rintro _ _ ⟨rfl, ⟨g1, rfl⟩ | ⟨g1, rfl⟩⟩
  · obtain ⟨n, hn, rfl⟩ := nd_of (by omega) g1
    iterate 1 (refine zv_step (bX7_walk 2) rfl rfl trivial ?_)
    refine zv_ift (by decide) ?_
    iterate 7 (refine zv_step (bX7_walk 2) rfl rfl trivial ?_)
    refine zv_step (bX7_walk 2) rfl rfl (show vp_in (nI 0) 41 from vp_in_nI (by decide) (by decide)) ?_
    iterate 4 (refine zv_step (bX7_walk 2) rfl rfl trivial ?_)
    exact zv_iret (bX7_walk 2) rfl (Or.inl rfl) (Nat.zero_le _) (Nat.zero_le _) ⟨⟨_, rfl⟩, Or.inr ⟨n, hn, rfl⟩⟩
  · skip
    iterate 1 (refine zv_step (bX7_walk 2) rfl rfl trivial ?_)
    refine zv_iff (by decide) ?_
    iterate 1 (refine zv_step (bX7_walk 2) rfl rfl trivial ?_)
    exact zv_iret (bX7_walk 2) rfl (Or.inl rfl) (Nat.zero_le _) (Nat.zero_le _) ⟨⟨_, rfl⟩, Or.inl rfl⟩
set_option maxHeartbeats 1000000 in
set_option maxRecDepth 20000 in
theorem mDown (f : Nat → zC) (o : Nat → Int32) (A : Nat → Nat → Int32) (J : Nat → Nat → Int64) {u : Nat} (hu : u ≤ 120) (hT : tbI 0 u A) {t d : Nat} (ht : t < u) {N : Nat → Int32} (D : Nat → Int32) (hr : rtM A t d N) (x : Int32) : zK 1 zX7_down [.ref 76, .int x] (wR f (upd o 33 (nI d)) (updA (updA A 20 N) 21 D) J) (fun r w' => ∃ (d' : Nat) (N' D' : Nat → Int32), w' = (wR f (upd o 33 (nI d')) (updA (updA A 20 N') 21 D') J) ∧ rtM A t d' N' ∧ (r = some (.int 1) ∨ r = some (.int 0))) := by
  have hd9 := rtM_d hT ht hr
  have e8 : nI d + Int32.ofInt 1 = nI (d + 1) := nI_1 d
  have e7 : (nI d + Int32.ofInt 1).toNatClampNeg = d + 1 := by rw [e8, nI_clamp (by omega)]
  obtain ⟨j, hj, ej, hz⟩ := hr.2 d (Nat.le_refl _)
  obtain ⟨hd2, hd3⟩ := rN_dn (hT j (Nat.zero_le _) (by omega))
  refine zK_of qX7_down (by decide +kernel) rfl ?_
  iterate 2 (refine zv_step (bX7_down 1) rfl rfl trivial ?_)
  refine zv_ifb (fun h1 => ?_) (fun h1 => ?_)
  · rcases hd3 with e2 | ⟨a, e2, ha, hza⟩
    · skip
      iterate 6 (refine zv_step (bX7_down 1) rfl rfl trivial ?_)
      refine zv_iale (bX7_down 1) rfl rfl (vp_in_nI (by omega) (by decide)) (show N (nI d).toNatClampNeg = nI j by rw [nI_clamp (by omega)]; exact ej) ?_
      refine zv_iale (bX7_down 1) rfl rfl (vp_in_nI (by omega) (by decide)) (show A 3 (nI j).toNatClampNeg = m2 by rw [nI_clamp (by omega)]; exact e2) ?_
      iterate 3 (refine zv_step (bX7_down 1) rfl rfl trivial ?_)
      refine zv_ift (by decide) ?_
      iterate 2 (refine zv_step (bX7_down 1) rfl rfl trivial ?_)
      refine zv_ift (by decide) ?_
      iterate 1 (refine zv_step (bX7_down 1) rfl rfl trivial ?_)
      exact zv_iret (bX7_down 1) rfl (Or.inr ⟨rfl, Or.inl rfl⟩) (Nat.zero_le _) (Nat.zero_le _) ⟨d, N, D, rfl, hr, Or.inr rfl⟩
    · skip
      iterate 6 (refine zv_step (bX7_down 1) rfl rfl trivial ?_)
      refine zv_iale (bX7_down 1) rfl rfl (vp_in_nI (by omega) (by decide)) (show N (nI d).toNatClampNeg = nI j by rw [nI_clamp (by omega)]; exact ej) ?_
      refine zv_iale (bX7_down 1) rfl rfl (vp_in_nI (by omega) (by decide)) (show A 3 (nI j).toNatClampNeg = nI a by rw [nI_clamp (by omega)]; exact e2) ?_
      iterate 3 (refine zv_step (bX7_down 1) rfl rfl trivial ?_)
      refine zv_iff (nI_pos (by omega)) ?_
      iterate 7 (refine zv_step (bX7_down 1) rfl rfl trivial ?_)
      refine zv_step (bX7_down 1) rfl rfl (show vp_in (nI d + Int32.ofInt 1) 41 by rw [show nI d + Int32.ofInt 1 = nI (d + 1) from nI_1 d]; exact vp_in_nI (by omega) (by decide)) ?_
      iterate 7 (refine zv_step (bX7_down 1) rfl rfl trivial ?_)
      refine zv_step (bX7_down 1) rfl rfl (show vp_in (nI d + Int32.ofInt 1) 41 by rw [show nI d + Int32.ofInt 1 = nI (d + 1) from nI_1 d]; exact vp_in_nI (by omega) (by decide)) ?_
      iterate 8 (refine zv_step (bX7_down 1) rfl rfl trivial ?_)
      refine zv_iff (nI_pos (by omega)) ?_
      iterate 2 (refine zv_step (bX7_down 1) rfl rfl trivial ?_)
      exact zv_iret (bX7_down 1) rfl (Or.inr ⟨rfl, Or.inr rfl⟩) (Nat.zero_le _) (Nat.zero_le _) ⟨d + 1, upd N (d + 1) (nI a), upd D (d + 1) x, by show wR f (upd o 33 (nI d + Int32.ofInt 1)) (updA (updA A 20 (upd N (nI d + Int32.ofInt 1).toNatClampNeg (nI a))) 21 (upd D (nI d + Int32.ofInt 1).toNatClampNeg x)) J = _; rw [e7, e8], rtM_set hr (by omega) (by omega), Or.inl rfl⟩
  · rcases hd2 with e2 | ⟨a, e2, ha, hza⟩
    · skip
      iterate 6 (refine zv_step (bX7_down 1) rfl rfl trivial ?_)
      refine zv_iale (bX7_down 1) rfl rfl (vp_in_nI (by omega) (by decide)) (show N (nI d).toNatClampNeg = nI j by rw [nI_clamp (by omega)]; exact ej) ?_
      refine zv_iale (bX7_down 1) rfl rfl (vp_in_nI (by omega) (by decide)) (show A 2 (nI j).toNatClampNeg = m2 by rw [nI_clamp (by omega)]; exact e2) ?_
      iterate 4 (refine zv_step (bX7_down 1) rfl rfl trivial ?_)
      refine zv_ift (by decide) ?_
      iterate 2 (refine zv_step (bX7_down 1) rfl rfl trivial ?_)
      refine zv_ift (by decide) ?_
      iterate 1 (refine zv_step (bX7_down 1) rfl rfl trivial ?_)
      exact zv_iret (bX7_down 1) rfl (Or.inr ⟨rfl, Or.inl rfl⟩) (Nat.zero_le _) (Nat.zero_le _) ⟨d, N, D, rfl, hr, Or.inr rfl⟩
    · skip
      iterate 6 (refine zv_step (bX7_down 1) rfl rfl trivial ?_)
      refine zv_iale (bX7_down 1) rfl rfl (vp_in_nI (by omega) (by decide)) (show N (nI d).toNatClampNeg = nI j by rw [nI_clamp (by omega)]; exact ej) ?_
      refine zv_iale (bX7_down 1) rfl rfl (vp_in_nI (by omega) (by decide)) (show A 2 (nI j).toNatClampNeg = nI a by rw [nI_clamp (by omega)]; exact e2) ?_
      iterate 4 (refine zv_step (bX7_down 1) rfl rfl trivial ?_)
      refine zv_iff (nI_pos (by omega)) ?_
      iterate 7 (refine zv_step (bX7_down 1) rfl rfl trivial ?_)
      refine zv_step (bX7_down 1) rfl rfl (show vp_in (nI d + Int32.ofInt 1) 41 by rw [show nI d + Int32.ofInt 1 = nI (d + 1) from nI_1 d]; exact vp_in_nI (by omega) (by decide)) ?_
      iterate 7 (refine zv_step (bX7_down 1) rfl rfl trivial ?_)
      refine zv_step (bX7_down 1) rfl rfl (show vp_in (nI d + Int32.ofInt 1) 41 by rw [show nI d + Int32.ofInt 1 = nI (d + 1) from nI_1 d]; exact vp_in_nI (by omega) (by decide)) ?_
      iterate 8 (refine zv_step (bX7_down 1) rfl rfl trivial ?_)
      refine zv_iff (nI_pos (by omega)) ?_
      iterate 2 (refine zv_step (bX7_down 1) rfl rfl trivial ?_)
      exact zv_iret (bX7_down 1) rfl (Or.inr ⟨rfl, Or.inr rfl⟩) (Nat.zero_le _) (Nat.zero_le _) ⟨d + 1, upd N (d + 1) (nI a), upd D (d + 1) x, by show wR f (upd o 33 (nI d + Int32.ofInt 1)) (updA (updA A 20 (upd N (nI d + Int32.ofInt 1).toNatClampNeg (nI a))) 21 (upd D (nI d + Int32.ofInt 1).toNatClampNeg x)) J = _; rw [e7, e8], rtM_set hr (by omega) (by omega), Or.inl rfl⟩
set_option maxHeartbeats 1000000 in
set_option maxRecDepth 20000 in
theorem mGo (f : Nat → zC) (o : Nat → Int32) (A : Nat → Nat → Int32) (J : Nat → Nat → Int64) {u : Nat} (hu : u ≤ 120) (hT : tbI 0 u A) {d : Nat} (hd : d ≤ 39) {N : Nat → Int32} (D : Nat → Int32) (hb : o 30 = 0 ∨ o 30 = 1) (hr : o 30 = 1 → ∃ t, t < u ∧ rtM A t d N) (x : Int32) : zK 2 zX7_go [.ref 76, .int x] (wR f (upd o 33 (nI d)) (updA (updA A 20 N) 21 D) J) (fun r w' => ∃ (d' : Nat) (N' D' : Nat → Int32) (R : Int32), r = some (.int R) ∧ w' = (wR f (upd o 33 (nI d')) (updA (updA A 20 N') 21 D') J) ∧ (o 30 = 1 → ∃ t, t < u ∧ rtM A t d' N') ∧ d' ≤ 39) := by
  refine zK_of qX7_go (by decide +kernel) rfl ?_
  iterate 4 (refine zv_step (bX7_go 2) rfl rfl trivial ?_)
  refine zv_S3 (bX7_go 2) rfl rfl rfl rfl ⟨rfl, rfl, rfl⟩ ⟨by decide, by decide⟩ ⟨Nat.zero_le _, Nat.zero_le _⟩ (mIn _ _ _ _ (a := 0) (b := 3) (by decide) (by decide)) ?_
  rintro _ _ ⟨rfl, ⟨g1, rfl⟩ | ⟨g1, rfl⟩⟩
  · skip
    iterate 1 (refine zv_step (bX7_go 2) rfl rfl trivial ?_)
    refine zv_ift (by decide) ?_
    iterate 3 (refine zv_step (bX7_go 2) rfl rfl trivial ?_)
    refine zv_ifb (fun h18 => ?_) (fun h18 => ?_)
    · obtain ⟨t, ht, hr0⟩ := hr (hb.resolve_left h18)
      iterate 3 (refine zv_step (bX7_go 2) rfl rfl trivial ?_)
      refine zv_ifb (fun h26 => ?_) (fun h26 => ?_)
      · iterate 3 (refine zv_step (bX7_go 2) rfl rfl trivial ?_)
        refine zv_ifb (fun h56 => ?_) (fun h56 => ?_)
        · iterate 1 (refine zv_step (bX7_go 2) rfl rfl trivial ?_)
          exact zv_iret (bX7_go 2) rfl (Or.inl rfl) (Nat.zero_le _) (Nat.zero_le _) ⟨d, N, D, _, rfl, rfl, hr, hd⟩
        · have d0 : d ≠ 0 := fun e => h56 (by rw [e]; rfl)
          obtain ⟨j, hj, ej, hz⟩ := hr0.2 (d - 1) (by omega)
          have em : nI d - Int32.ofInt 1 = nI (d - 1) := sub_1 (by omega)
          iterate 3 (refine zv_step (bX7_go 2) rfl rfl trivial ?_)
          refine zv_ifb (fun h61 => ?_) (fun h61 => ?_)
          · iterate 6 (refine zv_step (bX7_go 2) rfl rfl trivial ?_)
            refine zv_world (show _ = (wR f (upd o 33 (nI (d - 1))) (updA (updA A 20 N) 21 D) J) from by rw [← em]; rfl) ?_
            iterate 3 (refine zv_step (bX7_go 2) rfl rfl trivial ?_)
            refine zv_ifb (fun h98 => ?_) (fun h98 => ?_)
            · iterate 4 (refine zv_step (bX7_go 2) rfl rfl trivial ?_)
              refine zv_step (bX7_go 2) rfl rfl (show vp_in (nI (d - 1)) 41 from vp_in_nI (by omega) (by decide)) ?_
              exact zv_iret (bX7_go 2) rfl (Or.inl rfl) (Nat.zero_le _) (Nat.zero_le _) ⟨d - 1, N, D, _, rfl, rfl, fun _ => ⟨t, ht, rtM_up hr0 (by omega)⟩, by omega⟩
            · iterate 8 (refine zv_step (bX7_go 2) rfl rfl trivial ?_)
              refine zv_step (bX7_go 2) rfl rfl (show vp_in (nI (d - 1) + Int32.ofInt 1) 41 by rw [show nI (d - 1) + Int32.ofInt 1 = nI (d - 1 + 1) from nI_1 _]; exact vp_in_nI (by omega) (by decide)) ?_
              iterate 1 (refine zv_step (bX7_go 2) rfl rfl trivial ?_)
              refine zv_V1 (bX7_go 2) rfl rfl rfl rfl rfl rfl rfl ⟨rfl, rfl, rfl⟩ ⟨by decide, by decide⟩ ⟨Nat.zero_le _, Nat.zero_le _⟩ (mDown f o A J hu hT ht D (rtM_up hr0 (show d - 1 ≤ d by omega)) _) ?_
              rintro _ _ ⟨d1, N1, D1, rfl, hr1, rfl | rfl⟩
              · have hd1 := rtM_d hT ht hr1
                iterate 5 (refine zv_step (bX7_go 2) rfl rfl trivial ?_)
                refine zv_step (bX7_go 2) rfl rfl (show vp_in (nI d1) 41 from vp_in_nI (by omega) (by decide)) ?_
                exact zv_iret (bX7_go 2) rfl (Or.inl rfl) (Nat.zero_le _) (Nat.zero_le _) ⟨d1, N1, D1, _, rfl, rfl, fun _ => ⟨t, ht, hr1⟩, hd1⟩
              · have hd1 := rtM_d hT ht hr1
                iterate 5 (refine zv_step (bX7_go 2) rfl rfl trivial ?_)
                refine zv_step (bX7_go 2) rfl rfl (show vp_in (nI d1) 41 from vp_in_nI (by omega) (by decide)) ?_
                exact zv_iret (bX7_go 2) rfl (Or.inl rfl) (Nat.zero_le _) (Nat.zero_le _) ⟨d1, N1, D1, _, rfl, rfl, fun _ => ⟨t, ht, hr1⟩, hd1⟩
          · iterate 8 (refine zv_step (bX7_go 2) rfl rfl trivial ?_)
            refine zv_iale (bX7_go 2) rfl rfl (show vp_in (nI d - Int32.ofInt 1) 41 by rw [em]; exact vp_in_nI (by omega) (by decide)) (show N (nI d - Int32.ofInt 1).toNatClampNeg = nI j by rw [em, nI_clamp (by omega)]; exact ej) ?_
            refine zv_step (bX7_go 2) rfl rfl (vp_in_nI (by omega) (by decide)) ?_
            iterate 1 (refine zv_step (bX7_go 2) rfl rfl trivial ?_)
            refine zv_ifb (fun h80 => ?_) (fun h80 => ?_)
            · iterate 6 (refine zv_step (bX7_go 2) rfl rfl trivial ?_)
              refine zv_world (show _ = (wR f (upd o 33 (nI (d - 1))) (updA (updA A 20 N) 21 D) J) from by rw [← em]; rfl) ?_
              iterate 3 (refine zv_step (bX7_go 2) rfl rfl trivial ?_)
              refine zv_ifb (fun h98 => ?_) (fun h98 => ?_)
              · iterate 4 (refine zv_step (bX7_go 2) rfl rfl trivial ?_)
                refine zv_step (bX7_go 2) rfl rfl (show vp_in (nI (d - 1)) 41 from vp_in_nI (by omega) (by decide)) ?_
                exact zv_iret (bX7_go 2) rfl (Or.inl rfl) (Nat.zero_le _) (Nat.zero_le _) ⟨d - 1, N, D, _, rfl, rfl, fun _ => ⟨t, ht, rtM_up hr0 (by omega)⟩, by omega⟩
              · iterate 8 (refine zv_step (bX7_go 2) rfl rfl trivial ?_)
                refine zv_step (bX7_go 2) rfl rfl (show vp_in (nI (d - 1) + Int32.ofInt 1) 41 by rw [show nI (d - 1) + Int32.ofInt 1 = nI (d - 1 + 1) from nI_1 _]; exact vp_in_nI (by omega) (by decide)) ?_
                iterate 1 (refine zv_step (bX7_go 2) rfl rfl trivial ?_)
                refine zv_V1 (bX7_go 2) rfl rfl rfl rfl rfl rfl rfl ⟨rfl, rfl, rfl⟩ ⟨by decide, by decide⟩ ⟨Nat.zero_le _, Nat.zero_le _⟩ (mDown f o A J hu hT ht D (rtM_up hr0 (show d - 1 ≤ d by omega)) _) ?_
                rintro _ _ ⟨d1, N1, D1, rfl, hr1, rfl | rfl⟩
                · have hd1 := rtM_d hT ht hr1
                  iterate 5 (refine zv_step (bX7_go 2) rfl rfl trivial ?_)
                  refine zv_step (bX7_go 2) rfl rfl (show vp_in (nI d1) 41 from vp_in_nI (by omega) (by decide)) ?_
                  exact zv_iret (bX7_go 2) rfl (Or.inl rfl) (Nat.zero_le _) (Nat.zero_le _) ⟨d1, N1, D1, _, rfl, rfl, fun _ => ⟨t, ht, hr1⟩, hd1⟩
                · have hd1 := rtM_d hT ht hr1
                  iterate 5 (refine zv_step (bX7_go 2) rfl rfl trivial ?_)
                  refine zv_step (bX7_go 2) rfl rfl (show vp_in (nI d1) 41 from vp_in_nI (by omega) (by decide)) ?_
                  exact zv_iret (bX7_go 2) rfl (Or.inl rfl) (Nat.zero_le _) (Nat.zero_le _) ⟨d1, N1, D1, _, rfl, rfl, fun _ => ⟨t, ht, hr1⟩, hd1⟩
            · iterate 1 (refine zv_step (bX7_go 2) rfl rfl trivial ?_)
              exact zv_iret (bX7_go 2) rfl (Or.inl rfl) (Nat.zero_le _) (Nat.zero_le _) ⟨d, N, D, _, rfl, rfl, hr, hd⟩
      · iterate 2 (refine zv_step (bX7_go 2) rfl rfl trivial ?_)
        refine zv_V1 (bX7_go 2) rfl rfl rfl rfl rfl rfl rfl ⟨rfl, rfl, rfl⟩ ⟨by decide, by decide⟩ ⟨Nat.zero_le _, Nat.zero_le _⟩ (mDown f o A J hu hT ht D hr0 _) ?_
        rintro _ _ ⟨d1, N1, D1, rfl, hr1, rfl | rfl⟩
        · have hd1 := rtM_d hT ht hr1
          iterate 1 (refine zv_step (bX7_go 2) rfl rfl trivial ?_)
          refine zv_iff (by decide) ?_
          iterate 4 (refine zv_step (bX7_go 2) rfl rfl trivial ?_)
          refine zv_step (bX7_go 2) rfl rfl (show vp_in (nI d1) 41 from vp_in_nI (by omega) (by decide)) ?_
          iterate 1 (refine zv_step (bX7_go 2) rfl rfl trivial ?_)
          exact zv_iret (bX7_go 2) rfl (Or.inl rfl) (Nat.zero_le _) (Nat.zero_le _) ⟨d1, N1, D1, _, rfl, rfl, fun _ => ⟨t, ht, hr1⟩, hd1⟩
        · have hd1 := rtM_d hT ht hr1
          iterate 1 (refine zv_step (bX7_go 2) rfl rfl trivial ?_)
          refine zv_ift (by decide) ?_
          iterate 1 (refine zv_step (bX7_go 2) rfl rfl trivial ?_)
          exact zv_iret (bX7_go 2) rfl (Or.inl rfl) (Nat.zero_le _) (Nat.zero_le _) ⟨d1, N1, D1, _, rfl, rfl, fun _ => ⟨t, ht, hr1⟩, hd1⟩
    · iterate 1 (refine zv_step (bX7_go 2) rfl rfl trivial ?_)
      exact zv_iret (bX7_go 2) rfl (Or.inl rfl) (Nat.zero_le _) (Nat.zero_le _) ⟨d, N, D, _, rfl, rfl, hr, hd⟩
  · skip
    iterate 1 (refine zv_step (bX7_go 2) rfl rfl trivial ?_)
    refine zv_iff (by decide) ?_
    iterate 1 (refine zv_step (bX7_go 2) rfl rfl trivial ?_)
    exact zv_iret (bX7_go 2) rfl (Or.inl rfl) (Nat.zero_le _) (Nat.zero_le _) ⟨d, N, D, _, rfl, rfl, hr, hd⟩
set_option maxHeartbeats 1000000 in
set_option maxRecDepth 20000 in
theorem whereL (f : Nat → zC) (o : Nat → Int32) (A : Nat → Nat → Int32) (J : Nat → Nat → Int64) {n0 : Nat} (x : Int32) : ∀ (k : Nat), k ≤ 40 → ∀ {x3 v : Int32}, x3 = nI k → zV (zMo 2 zX7_where) false n0 0 0 78 [(3, .int x3), (2, .int v), (0, .ref 76), (1, .int x)] [] (wR f (upd o 16 (Int32.ofInt 0)) A J) (fun r w' => ∃ (R t : Int32), r = some (.int R) ∧ w' = wR f (upd o 16 t) A J) := by
  intro k
  induction k with
  | zero =>
    intro hk x3 v e3
    subst e3
    iterate 2 (refine zv_step (bX7_where 2) rfl rfl trivial ?_)
    refine zv_ift (show nI 0 ≤ 0 by decide) ?_
    iterate 1 (refine zv_step (bX7_where 2) rfl rfl trivial ?_)
    exact zv_iret (bX7_where 2) rfl (Or.inl rfl) (Nat.zero_le _) (Nat.zero_le _) ⟨_, Int32.ofInt 0, rfl, rfl⟩
  | succ k ih =>
    intro hk x3 v e3
    subst e3
    iterate 2 (refine zv_step (bX7_where 2) rfl rfl trivial ?_)
    refine zv_iff (nI_nle (by omega) (by omega)) ?_
    iterate 6 (refine zv_step (bX7_where 2) rfl rfl trivial ?_)
    refine zv_step (bX7_where 2) rfl rfl (show vp_in (nI (k + 1)) 41 from vp_in_nI (by omega) (by decide)) ?_
    iterate 6 (refine zv_step (bX7_where 2) rfl rfl trivial ?_)
    refine zv_locals (l := [(3, .int (nI (k + 1) + Int32.ofInt (-1))), (2, .int (Int32.ofInt 3 * v + A 21 (nI (k + 1)).toNatClampNeg + Int32.ofInt 1)), (0, .ref 76), (1, .int x)]) (l' := [(3, .int (nI (k + 1) + Int32.ofInt (-1))), (2, .int (Int32.ofInt 3 * v + A 21 (nI (k + 1)).toNatClampNeg + Int32.ofInt 1)), (0, .ref 76), (1, .int x)]) (fun q h => h) (ih (by omega) (nI_dec k))
set_option maxHeartbeats 1000000 in
set_option maxRecDepth 20000 in
theorem mWhere (f : Nat → zC) (o : Nat → Int32) (A : Nat → Nat → Int32) (J : Nat → Nat → Int64) {d : Nat} (hd : d ≤ 39) (ho33 : o 33 = nI d) (x : Int32) : zK 2 zX7_where [.ref 76, .int x] (wR f o A J) (fun r w' => ∃ (R t : Int32), r = some (.int R) ∧ w' = wR f (upd o 16 t) A J) := by
  refine zK_of qX7_where (by decide +kernel) rfl ?_
  iterate 7 (refine zv_step (bX7_where 2) rfl rfl trivial ?_)
  refine zv_S3 (bX7_where 2) rfl rfl rfl rfl ⟨rfl, rfl, rfl⟩ ⟨by decide, by decide⟩ ⟨Nat.zero_le _, Nat.zero_le _⟩ (mIn _ _ _ _ (a := 0) (b := 2) (by decide) (by decide)) ?_
  rintro _ _ ⟨rfl, ⟨g1, rfl⟩ | ⟨g1, rfl⟩⟩
  · skip
    iterate 1 (refine zv_step (bX7_where 2) rfl rfl trivial ?_)
    refine zv_ift (by decide) ?_
    iterate 3 (refine zv_step (bX7_where 2) rfl rfl trivial ?_)
    refine zv_ifb (fun h23 => ?_) (fun h23 => ?_)
    · iterate 2 (refine zv_step (bX7_where 2) rfl rfl trivial ?_)
      refine zv_ifb (fun h30 => ?_) (fun h30 => ?_)
      · iterate 4 (refine zv_step (bX7_where 2) rfl rfl trivial ?_)
        refine zv_ifb (fun h61 => ?_) (fun h61 => ?_)
        · iterate 5 (refine zv_step (bX7_where 2) rfl rfl trivial ?_)
          exact whereL f o A J x d (by omega) ho33
        · iterate 4 (refine zv_step (bX7_where 2) rfl rfl trivial ?_)
          exact zv_iret (bX7_where 2) rfl (Or.inl rfl) (Nat.zero_le _) (Nat.zero_le _) ⟨_, Int32.ofInt 1, rfl, rfl⟩
      · iterate 3 (refine zv_step (bX7_where 2) rfl rfl trivial ?_)
        refine zv_ifb (fun h35 => ?_) (fun h35 => ?_)
        · iterate 4 (refine zv_step (bX7_where 2) rfl rfl trivial ?_)
          refine zv_step (bX7_where 2) rfl rfl (show vp_in (o 33) 41 by rw [ho33]; exact vp_in_nI (by omega) (by decide)) ?_
          exact zv_iret (bX7_where 2) rfl (Or.inl rfl) (Nat.zero_le _) (Nat.zero_le _) ⟨_, Int32.ofInt 0, rfl, rfl⟩
        · iterate 3 (refine zv_step (bX7_where 2) rfl rfl trivial ?_)
          exact zv_iret (bX7_where 2) rfl (Or.inl rfl) (Nat.zero_le _) (Nat.zero_le _) ⟨_, Int32.ofInt 0, rfl, rfl⟩
    · iterate 1 (refine zv_step (bX7_where 2) rfl rfl trivial ?_)
      exact zv_iret (bX7_where 2) rfl (Or.inl rfl) (Nat.zero_le _) (Nat.zero_le _) ⟨_, Int32.ofInt 0, rfl, rfl⟩
  · skip
    iterate 1 (refine zv_step (bX7_where 2) rfl rfl trivial ?_)
    refine zv_iff (by decide) ?_
    iterate 1 (refine zv_step (bX7_where 2) rfl rfl trivial ?_)
    exact zv_iret (bX7_where 2) rfl (Or.inl rfl) (Nat.zero_le _) (Nat.zero_le _) ⟨_, Int32.ofInt 0, rfl, rfl⟩
theorem div3 {x : Int32} (h : 0 < x.toInt) : (x / Int32.ofInt 3).toInt = x.toInt / 3 := by
  have h2 := Int32.toInt_lt x
  rw [Int32.toInt_div, show (Int32.ofInt 3).toInt = 3 from rfl, Int.tdiv_eq_ediv_of_nonneg (by omega)]
  exact Int.bmod_eq_of_le (by omega) (by omega)
set_option maxHeartbeats 1000000 in
set_option maxRecDepth 20000 in
theorem leadL2 (f : Nat → zC) (o : Nat → Int32) (A : Nat → Nat → Int32) (J : Nat → Nat → Int64) {u : Nat} (hu : u ≤ 120) (hT : tbI 0 u A) {t : Nat} (ht : t < u) {x y z : Int32} {n0 : Nat} : ∀ (c : Nat) (k : Int32), k.toInt ≤ c → ∀ {d : Nat} {N D : Nat → Int32}, d ≤ 39 → rtM A t d N → zV (zMo 2 zX7_lead) false n0 0 0 87 [(4, .int k), (3, .int z), (2, .int y), (0, .ref 76), (1, .int x)] [] (wR f (upd o 33 (nI d)) (updA (updA A 20 N) 21 D) J) (fun r w' => ∃ (d' : Nat) (N' D' : Nat → Int32) (R : Int32), r = some (.int R) ∧ w' = (wR f (upd o 33 (nI d')) (updA (updA A 20 N') 21 D') J) ∧ rtM A t d' N' ∧ d' ≤ 39) := by
  intro c
  induction c with
  | zero =>
    intro k hk d N D hd hr
    iterate 2 (refine zv_step (bX7_lead 2) rfl rfl trivial ?_)
    refine zv_ift (show k ≤ 0 by rw [Int32.le_iff_toInt_le, Int32.toInt_zero]; omega) ?_
    iterate 4 (refine zv_step (bX7_lead 2) rfl rfl trivial ?_)
    refine zv_step (bX7_lead 2) rfl rfl (show vp_in (nI d) 41 from vp_in_nI (by omega) (by decide)) ?_
    exact zv_iret (bX7_lead 2) rfl (Or.inl rfl) (Nat.zero_le _) (Nat.zero_le _) ⟨d, N, D, _, rfl, rfl, hr, hd⟩
  | succ c ih =>
    intro k hk d N D hd hr
    iterate 2 (refine zv_step (bX7_lead 2) rfl rfl trivial ?_)
    refine zv_ifb (fun h89 => ?_) (fun h89 => ?_)
    · iterate 4 (refine zv_step (bX7_lead 2) rfl rfl trivial ?_)
      refine zv_step (bX7_lead 2) rfl rfl (show vp_in (nI d) 41 from vp_in_nI (by omega) (by decide)) ?_
      exact zv_iret (bX7_lead 2) rfl (Or.inl rfl) (Nat.zero_le _) (Nat.zero_le _) ⟨d, N, D, _, rfl, rfl, hr, hd⟩
    · have k1 : 0 < k.toInt := by have h9 : ¬ k ≤ 0 := h89; rw [Int32.le_iff_toInt_le, Int32.toInt_zero] at h9; omega
      iterate 3 (refine zv_step (bX7_lead 2) rfl rfl trivial ?_)
      refine zv_step (bX7_lead 2) rfl rfl (show ¬ Int32.ofInt 3 = 0 by decide) ?_
      iterate 2 (refine zv_step (bX7_lead 2) rfl rfl trivial ?_)
      refine zv_V1 (bX7_lead 2) rfl rfl rfl rfl rfl rfl rfl ⟨rfl, rfl, rfl⟩ ⟨by decide, by decide⟩ ⟨Nat.zero_le _, Nat.zero_le _⟩ (mDown f o A J hu hT ht D hr _) ?_
      rintro _ _ ⟨d1, N1, D1, rfl, hr1, rfl | rfl⟩
      · have hd1 := rtM_d hT ht hr1
        iterate 3 (refine zv_step (bX7_lead 2) rfl rfl trivial ?_)
        refine zv_step (bX7_lead 2) rfl rfl (show ¬ Int32.ofInt 3 = 0 by decide) ?_
        iterate 2 (refine zv_step (bX7_lead 2) rfl rfl trivial ?_)
        refine zv_locals (l := [(4, .int (k / Int32.ofInt 3)), (5, .int 1), (3, .int z), (2, .int y), (0, .ref 76), (1, .int x)]) (l' := [(4, .int (k / Int32.ofInt 3)), (3, .int z), (2, .int y), (0, .ref 76), (1, .int x)]) ?_ (ih _ (by rw [div3 k1]; omega) hd1 hr1)
        simp
      · have hd1 := rtM_d hT ht hr1
        iterate 3 (refine zv_step (bX7_lead 2) rfl rfl trivial ?_)
        refine zv_step (bX7_lead 2) rfl rfl (show ¬ Int32.ofInt 3 = 0 by decide) ?_
        iterate 2 (refine zv_step (bX7_lead 2) rfl rfl trivial ?_)
        refine zv_locals (l := [(4, .int (k / Int32.ofInt 3)), (5, .int 0), (3, .int z), (2, .int y), (0, .ref 76), (1, .int x)]) (l' := [(4, .int (k / Int32.ofInt 3)), (3, .int z), (2, .int y), (0, .ref 76), (1, .int x)]) ?_ (ih _ (by rw [div3 k1]; omega) hd1 hr1)
        simp
theorem pq {u n : Nat} {A : Nat → Nat → Int32} (hT : tbI 0 u A) (hn : n < u) {x : Int32} (h : x = m2 ∨ ∃ a, x = nI a ∧ a < n ∧ szN A a + 1 ≤ szN A n) : x = m2 ∨ ∃ m : Nat, x = nI m ∧ m < u := h.imp id (fun ⟨a, e, ha, _⟩ => ⟨a, e, by omega⟩)
theorem zv_weak {M : zM} {al : Bool} {n0 kc ks pc : Nat} {l : zL} {st : List Value} {w : zW} {Q Q' : Option Value → zW → Prop} (h : ∀ r w, Q r w → Q' r w) (k : zV M al n0 kc ks pc l st w Q) : zV M al n0 kc ks pc l st w Q' := by
  intro p l0 e s m args below meth c dC dI dA ad0 A Z h9t hctx hfin ad H locs ls hrel hl
  exact k p l0 e s m args below meth c dC dI dA ad0 A Z h9t hctx (fun ad H locs kc ks pc ls v w a b => hfin ad H locs kc ks pc ls v w a (h v w b)) ad H locs ls hrel hl
set_option maxHeartbeats 1000000 in
set_option maxRecDepth 20000 in
theorem leadL1 (f : Nat → zC) (o : Nat → Int32) (A : Nat → Nat → Int32) (J : Nat → Nat → Int64) {u : Nat} (hu : u ≤ 120) (hT : tbI 0 u A) {t d : Nat} (ht : t < u) (hr : rtM A t d (A 20)) {x : Int32} {n0 : Nat} : ∀ (c : Nat) (k y : Int32), k.toInt ≤ c → (y = m2 ∨ ∃ n : Nat, y = nI n ∧ n < u) → zV (zMo 2 zX7_lead) false n0 0 0 19 [(3, .int k), (2, .int y), (0, .ref 76), (1, .int x)] [] (wR f o A J) (fun r w' => (∃ R : Int32, r = some (.int R)) ∧ (w' = (wR f o A J) ∨ ∃ (d' : Nat) (N' D' : Nat → Int32), w' = (wR f (upd o 33 (nI d')) (updA (updA A 20 N') 21 D') J) ∧ rtM A t d' N' ∧ d' ≤ 39)) := by
  intro c
  induction c with
  | zero =>
    intro k y hk hn
    rcases hn with rfl | ⟨n, rfl, hn⟩
    · iterate 2 (refine zv_step (bX7_lead 2) rfl rfl trivial ?_)
      refine zv_ift (by decide) ?_
      iterate 2 (refine zv_step (bX7_lead 2) rfl rfl trivial ?_)
      refine zv_ift (by decide) ?_
      iterate 1 (refine zv_step (bX7_lead 2) rfl rfl trivial ?_)
      exact zv_iret (bX7_lead 2) rfl (Or.inl rfl) (Nat.zero_le _) (Nat.zero_le _) ⟨⟨_, rfl⟩, Or.inl rfl⟩
    · obtain ⟨hq2, hq3⟩ := rN_dn (hT n (Nat.zero_le _) hn)
      iterate 2 (refine zv_step (bX7_lead 2) rfl rfl trivial ?_)
      refine zv_iff (nI_pos (by omega)) ?_
      iterate 2 (refine zv_step (bX7_lead 2) rfl rfl trivial ?_)
      refine zv_ift (show k ≤ 0 by rw [Int32.le_iff_toInt_le, Int32.toInt_zero]; omega) ?_
      iterate 2 (refine zv_step (bX7_lead 2) rfl rfl trivial ?_)
      refine zv_iff (nI_pos (by omega)) ?_
      iterate 2 (refine zv_step (bX7_lead 2) rfl rfl trivial ?_)
      refine zv_ifb (fun h74 => ?_) (fun h74 => ?_)
      · iterate 5 (refine zv_step (bX7_lead 2) rfl rfl trivial ?_)
        refine zv_world (show _ = (wR f (upd o 33 (nI 0)) (updA (updA A 20 (A 20)) 21 (A 21)) J) from rfl) ?_
        refine zv_locals (l := [(4, .int x), (3, .int k), (2, .int (nI n)), (0, .ref 76), (1, .int x)]) (l' := [(4, .int x), (3, .int k), (2, .int (nI n)), (0, .ref 76), (1, .int x)]) (fun q h => h) (zv_weak (fun r w q => ?_) (leadL2 f o A J hu hT ht x.toInt.toNat x (by omega) (by decide) (rtM_up hr (Nat.zero_le _))))
        obtain ⟨d1, N1, D1, R, e1, e2, e3, e4⟩ := q
        exact ⟨⟨R, e1⟩, Or.inr ⟨d1, N1, D1, e2, e3, e4⟩⟩
      · iterate 1 (refine zv_step (bX7_lead 2) rfl rfl trivial ?_)
        exact zv_iret (bX7_lead 2) rfl (Or.inl rfl) (Nat.zero_le _) (Nat.zero_le _) ⟨⟨_, rfl⟩, Or.inl rfl⟩
  | succ c ih =>
    intro k y hk hn
    rcases hn with rfl | ⟨n, rfl, hn⟩
    · iterate 2 (refine zv_step (bX7_lead 2) rfl rfl trivial ?_)
      refine zv_ift (by decide) ?_
      iterate 2 (refine zv_step (bX7_lead 2) rfl rfl trivial ?_)
      refine zv_ift (by decide) ?_
      iterate 1 (refine zv_step (bX7_lead 2) rfl rfl trivial ?_)
      exact zv_iret (bX7_lead 2) rfl (Or.inl rfl) (Nat.zero_le _) (Nat.zero_le _) ⟨⟨_, rfl⟩, Or.inl rfl⟩
    · obtain ⟨hq2, hq3⟩ := rN_dn (hT n (Nat.zero_le _) hn)
      iterate 2 (refine zv_step (bX7_lead 2) rfl rfl trivial ?_)
      refine zv_iff (nI_pos (by omega)) ?_
      iterate 2 (refine zv_step (bX7_lead 2) rfl rfl trivial ?_)
      refine zv_ifb (fun h24 => ?_) (fun h24 => ?_)
      · iterate 2 (refine zv_step (bX7_lead 2) rfl rfl trivial ?_)
        refine zv_iff (nI_pos (by omega)) ?_
        iterate 2 (refine zv_step (bX7_lead 2) rfl rfl trivial ?_)
        refine zv_ifb (fun h74 => ?_) (fun h74 => ?_)
        · iterate 5 (refine zv_step (bX7_lead 2) rfl rfl trivial ?_)
          refine zv_world (show _ = (wR f (upd o 33 (nI 0)) (updA (updA A 20 (A 20)) 21 (A 21)) J) from rfl) ?_
          refine zv_locals (l := [(4, .int x), (3, .int k), (2, .int (nI n)), (0, .ref 76), (1, .int x)]) (l' := [(4, .int x), (3, .int k), (2, .int (nI n)), (0, .ref 76), (1, .int x)]) (fun q h => h) (zv_weak (fun r w q => ?_) (leadL2 f o A J hu hT ht x.toInt.toNat x (by omega) (by decide) (rtM_up hr (Nat.zero_le _))))
          obtain ⟨d1, N1, D1, R, e1, e2, e3, e4⟩ := q
          exact ⟨⟨R, e1⟩, Or.inr ⟨d1, N1, D1, e2, e3, e4⟩⟩
        · iterate 1 (refine zv_step (bX7_lead 2) rfl rfl trivial ?_)
          exact zv_iret (bX7_lead 2) rfl (Or.inl rfl) (Nat.zero_le _) (Nat.zero_le _) ⟨⟨_, rfl⟩, Or.inl rfl⟩
      · have k1 : 0 < k.toInt := by have h9 : ¬ k ≤ 0 := h24; rw [Int32.le_iff_toInt_le, Int32.toInt_zero] at h9; omega
        iterate 2 (refine zv_step (bX7_lead 2) rfl rfl trivial ?_)
        refine zv_step (bX7_lead 2) rfl rfl (show ¬ Int32.ofInt 3 = 0 by decide) ?_
        iterate 2 (refine zv_step (bX7_lead 2) rfl rfl trivial ?_)
        refine zv_ifb (fun h31 => ?_) (fun h31 => ?_)
        · iterate 2 (refine zv_step (bX7_lead 2) rfl rfl trivial ?_)
          refine zv_step (bX7_lead 2) rfl rfl (show ¬ Int32.ofInt 3 = 0 by decide) ?_
          iterate 2 (refine zv_step (bX7_lead 2) rfl rfl trivial ?_)
          refine zv_ifb (fun h47 => ?_) (fun h47 => ?_)
          · iterate 4 (refine zv_step (bX7_lead 2) rfl rfl trivial ?_)
            refine zv_step (bX7_lead 2) rfl rfl (show ¬ Int32.ofInt 3 = 0 by decide) ?_
            iterate 2 (refine zv_step (bX7_lead 2) rfl rfl trivial ?_)
            refine zv_locals (l := [(3, .int (k / Int32.ofInt 3)), (2, .int (m2)), (0, .ref 76), (1, .int x)]) (l' := [(3, .int (k / Int32.ofInt 3)), (2, .int (m2)), (0, .ref 76), (1, .int x)]) ?_ (ih _ _ (by rw [div3 k1]; omega) (Or.inl rfl))
            simp
          · iterate 3 (refine zv_step (bX7_lead 2) rfl rfl trivial ?_)
            refine zv_iale (bX7_lead 2) rfl rfl (vp_in_nI (by omega) (by decide)) (show A 3 (nI n).toNatClampNeg = A 3 n by rw [nI_clamp (by omega)]) ?_
            iterate 4 (refine zv_step (bX7_lead 2) rfl rfl trivial ?_)
            refine zv_step (bX7_lead 2) rfl rfl (show ¬ Int32.ofInt 3 = 0 by decide) ?_
            iterate 2 (refine zv_step (bX7_lead 2) rfl rfl trivial ?_)
            refine zv_locals (l := [(3, .int (k / Int32.ofInt 3)), (2, .int (A 3 n)), (0, .ref 76), (1, .int x)]) (l' := [(3, .int (k / Int32.ofInt 3)), (2, .int (A 3 n)), (0, .ref 76), (1, .int x)]) ?_ (ih _ _ (by rw [div3 k1]; omega) (pq hT hn hq3))
            simp
        · iterate 3 (refine zv_step (bX7_lead 2) rfl rfl trivial ?_)
          refine zv_iale (bX7_lead 2) rfl rfl (vp_in_nI (by omega) (by decide)) (show A 2 (nI n).toNatClampNeg = A 2 n by rw [nI_clamp (by omega)]) ?_
          iterate 4 (refine zv_step (bX7_lead 2) rfl rfl trivial ?_)
          refine zv_step (bX7_lead 2) rfl rfl (show ¬ Int32.ofInt 3 = 0 by decide) ?_
          iterate 2 (refine zv_step (bX7_lead 2) rfl rfl trivial ?_)
          refine zv_locals (l := [(3, .int (k / Int32.ofInt 3)), (2, .int (A 2 n)), (0, .ref 76), (1, .int x)]) (l' := [(3, .int (k / Int32.ofInt 3)), (2, .int (A 2 n)), (0, .ref 76), (1, .int x)]) ?_ (ih _ _ (by rw [div3 k1]; omega) (pq hT hn hq2))
          simp
set_option maxHeartbeats 1000000 in
set_option maxRecDepth 20000 in
theorem mLead (f : Nat → zC) (o : Nat → Int32) (A : Nat → Nat → Int32) (J : Nat → Nat → Int64) {u : Nat} (hu : u ≤ 120) (hT : tbI 0 u A) {d : Nat} (hb : o 30 = 0 ∨ o 30 = 1) (hr : o 30 = 1 → ∃ t, t < u ∧ rtM A t d (A 20)) (x : Int32) : zK 2 zX7_lead [.ref 76, .int x] (wR f o A J) (fun r w' => (∃ R : Int32, r = some (.int R)) ∧ (w' = (wR f o A J) ∨ ∃ (d' : Nat) (N' D' : Nat → Int32), w' = (wR f (upd o 33 (nI d')) (updA (updA A 20 N') 21 D') J) ∧ (o 30 = 1 → ∃ t, t < u ∧ rtM A t d' N') ∧ d' ≤ 39)) := by
  refine zK_of qX7_lead (by decide +kernel) rfl ?_
  iterate 3 (refine zv_step (bX7_lead 2) rfl rfl trivial ?_)
  refine zv_ifb (fun h4 => ?_) (fun h4 => ?_)
  · obtain ⟨t, ht, hr0⟩ := hr (hb.resolve_left h4)
    iterate 3 (refine zv_step (bX7_lead 2) rfl rfl trivial ?_)
    refine zv_iale (bX7_lead 2) rfl rfl (show vp_in (nI 0) 41 from vp_in_nI (by decide) (by decide)) (show A 20 0 = nI t from hr0.1) ?_
    iterate 3 (refine zv_step (bX7_lead 2) rfl rfl trivial ?_)
    refine zv_weak (fun r w q => ?_) (leadL1 f o A J hu hT ht hr0 x.toInt.toNat x (nI t) (by omega) (Or.inr ⟨t, rfl, ht⟩))
    obtain ⟨e1, e2 | ⟨d1, N1, D1, e2, e3, e4⟩⟩ := q
    · exact ⟨e1, Or.inl e2⟩
    · exact ⟨e1, Or.inr ⟨d1, N1, D1, e2, fun _ => ⟨t, ht, e3⟩, e4⟩⟩
  · iterate 1 (refine zv_step (bX7_lead 2) rfl rfl trivial ?_)
    exact zv_iret (bX7_lead 2) rfl (Or.inl rfl) (Nat.zero_le _) (Nat.zero_le _) ⟨⟨_, rfl⟩, Or.inl rfl⟩
set_option maxHeartbeats 1000000 in
set_option maxRecDepth 20000 in
theorem mGlance (f : Nat → zC) (o : Nat → Int32) (A : Nat → Nat → Int32) (J : Nat → Nat → Int64) {u : Nat} (hu : u ≤ 120) (hT : tbI 0 u A) {d : Nat} (hd : d ≤ 39) (ho33 : o 33 = nI d) (hb : o 30 = 0 ∨ o 30 = 1) (hr : o 30 = 1 → ∃ t, t < u ∧ rtM A t d (A 20)) (x y : Int32) : zK 43 zX7_glance [.ref 76, .int x, .int y] (wR f o A J) (fun r w' => w' = (wR f o A J) ∧ ∃ v : Int32, r = some (.int v)) := by
  refine zK_of qX7_glance (by decide +kernel) rfl ?_
  iterate 1 (refine zv_step (bX7_glance 43) rfl rfl trivial ?_)
  refine zv_S1 (bX7_glance 43) rfl rfl rfl rfl ⟨rfl, rfl, rfl⟩ ⟨by decide, by decide⟩ ⟨Nat.zero_le _, Nat.zero_le _⟩ (hX7_isStyle _ _) ?_
  rintro _ _ ⟨rfl, ⟨g1, rfl⟩ | ⟨g1, rfl⟩⟩
  · obtain ⟨s, hs, rfl⟩ := in_nat (x := x) (b := 7) (by decide) g1
    iterate 1 (refine zv_step (bX7_glance 43) rfl rfl trivial ?_)
    refine zv_iff (by decide) ?_
    iterate 4 (refine zv_step (bX7_glance 43) rfl rfl trivial ?_)
    refine zv_S3 (bX7_glance 43) rfl rfl rfl rfl ⟨rfl, rfl, rfl⟩ ⟨by decide, by decide⟩ ⟨Nat.zero_le _, Nat.zero_le _⟩ (mIn _ _ _ _ (a := 0) (b := 9) (by decide) (by decide)) ?_
    rintro _ _ ⟨rfl, ⟨g2, rfl⟩ | ⟨g2, rfl⟩⟩
    · skip
      iterate 1 (refine zv_step (bX7_glance 43) rfl rfl trivial ?_)
      refine zv_ift (by decide) ?_
      iterate 3 (refine zv_step (bX7_glance 43) rfl rfl trivial ?_)
      refine zv_ifb (fun h25 => ?_) (fun h25 => ?_)
      · obtain ⟨t, ht, hr0⟩ := hr (hb.resolve_left h25)
        obtain ⟨j, hj, ej, hz⟩ := hr0.2 d (Nat.le_refl _)
        iterate 6 (refine zv_step (bX7_glance 43) rfl rfl trivial ?_)
        refine zv_iale (bX7_glance 43) rfl rfl (show vp_in (o 33) 41 by rw [ho33]; exact vp_in_nI (by omega) (by decide)) (show A 20 (o 33).toNatClampNeg = nI j by rw [ho33, nI_clamp (by omega)]; exact ej) ?_
        iterate 1 (refine zv_step (bX7_glance 43) rfl rfl trivial ?_)
        refine zv_V3 (bX7_glance 43) rfl rfl rfl rfl rfl rfl rfl ⟨rfl, rfl, rfl⟩ ⟨by decide, by decide⟩ ⟨Nat.zero_le _, Nat.zero_le _⟩ (mGlanced f o A J (by omega) hT (by omega) 40 _ _ (pt_of hT (Nat.zero_le _) (by omega))) ?_
        rintro _ _ ⟨rfl, v, rfl⟩
        iterate 4 (refine zv_step (bX7_glance 43) rfl rfl trivial ?_)
        refine zv_ifb (fun h50 => ?_) (fun h50 => ?_)
        · iterate 1 (refine zv_step (bX7_glance 43) rfl rfl trivial ?_)
          exact zv_iret (bX7_glance 43) rfl (Or.inl rfl) (Nat.zero_le _) (Nat.zero_le _) ⟨rfl, _, rfl⟩
        · iterate 2 (refine zv_step (bX7_glance 43) rfl rfl trivial ?_)
          exact zv_iret (bX7_glance 43) rfl (Or.inl rfl) (Nat.zero_le _) (Nat.zero_le _) ⟨rfl, _, rfl⟩
      · iterate 1 (refine zv_step (bX7_glance 43) rfl rfl trivial ?_)
        exact zv_iret (bX7_glance 43) rfl (Or.inl rfl) (Nat.zero_le _) (Nat.zero_le _) ⟨rfl, _, rfl⟩
    · skip
      iterate 1 (refine zv_step (bX7_glance 43) rfl rfl trivial ?_)
      refine zv_iff (by decide) ?_
      iterate 1 (refine zv_step (bX7_glance 43) rfl rfl trivial ?_)
      exact zv_iret (bX7_glance 43) rfl (Or.inl rfl) (Nat.zero_le _) (Nat.zero_le _) ⟨rfl, _, rfl⟩
  · skip
    iterate 1 (refine zv_step (bX7_glance 43) rfl rfl trivial ?_)
    refine zv_ift (by decide) ?_
    iterate 1 (refine zv_step (bX7_glance 43) rfl rfl trivial ?_)
    exact zv_iret (bX7_glance 43) rfl (Or.inl rfl) (Nat.zero_le _) (Nat.zero_le _) ⟨rfl, _, rfl⟩
