/-- a PART by its way (0 x, others y), a step down -/
noncomputable def wyA (A : Nat → Nat → Int32) (x w : Int32) : Int32 := if w = 0 then A 2 (nC x) else A 3 (nC x)
noncomputable def sdA (A : Nat → Nat → Int32) (w : Int32) (s : Nat × (Nat → Int32) × (Nat → Int32)) : Nat × (Nat → Int32) × (Nat → Int32) := if wyA A (s.2.1 s.1) w < 0 then s else (s.1 + 1, upd s.2.1 (s.1 + 1) (wyA A (s.2.1 s.1) w), upd s.2.2 (s.1 + 1) w)
theorem wyA_or {u : Nat} {A : Nat → Nat → Int32} (hT : tbI 0 u A) (hu : u ≤ 120) {n : Nat} (hn : n < u) (w : Int32) : wyA A (nI n) w = m2 ∨ ∃ a, wyA A (nI n) w = nI a ∧ a < n ∧ szN A a + 1 ≤ szN A n := by
  obtain ⟨h2, h3⟩ := rN_dn (hT n (Nat.zero_le _) hn)
  unfold wyA
  rw [show nC (nI n) = n from nI_clamp (by omega)]
  split
  · exact h2
  · exact h3
theorem rt_sdA {u : Nat} (hu : u ≤ 120) {A : Nat → Nat → Int32} (hT : tbI 0 u A) {t : Nat} (ht : t < u) (w : Int32) {s : Nat × (Nat → Int32) × (Nat → Int32)} (h : rtM A t s.1 s.2.1) : rtM A t (sdA A w s).1 (sdA A w s).2.1 := by
  obtain ⟨j, hj, ej, hz⟩ := h.2 s.1 (Nat.le_refl _)
  unfold sdA
  rw [ej]
  rcases wyA_or hT hu (show j < u by omega) w with e | ⟨a, e, ha, hs⟩
  · rw [e, if_pos (by decide)]
    exact h
  · rw [e, if_neg (nI_pos (by omega))]
    exact rtM_set h (by omega) (by omega)
set_option maxHeartbeats 1000000 in
set_option maxRecDepth 20000 in
theorem mDownX (f : Nat → zC) (o : Nat → Int32) (A : Nat → Nat → Int32) (J : Nat → Nat → Int64) {u : Nat} (hu : u ≤ 120) (hT : tbI 0 u A) {t d : Nat} (ht : t < u) {N : Nat → Int32} (D : Nat → Int32) (hr : rtM A t d N) (x : Int32) : zK 1 zX7_down [.ref 76, .int x] (wR f (upd o 33 (nI d)) (updA (updA A 20 N) 21 D) J) (fun r w' => w' = (wR f (upd o 33 (nI (sdA A x (d, N, D)).1)) (updA (updA A 20 (sdA A x (d, N, D)).2.1) 21 (sdA A x (d, N, D)).2.2) J) ∧ (((∃ a : Nat, a < u ∧ wyA A (N d) x = nI a) ∧ r = some (.int 1)) ∨ (wyA A (N d) x = m2 ∧ r = some (.int 0)))) := by
  have hd9 := rtM_d hT ht hr
  have e8 : nI d + Int32.ofInt 1 = nI (d + 1) := nI_1 d
  have e7 : (nI d + Int32.ofInt 1).toNatClampNeg = d + 1 := by rw [e8, nI_clamp (by omega)]
  obtain ⟨j, hj, ej, hz⟩ := hr.2 d (Nat.le_refl _)
  obtain ⟨hd2, hd3⟩ := rN_dn (hT j (Nat.zero_le _) (by omega))
  refine zK_of qX7_down (by decide +kernel) rfl ?_
  iterate 2 (refine zv_step (bX7_down 1) rfl rfl trivial ?_)
  refine zv_ifb (fun h1 => ?_) (fun h1 => ?_)
  · have h1n : ¬ x = 0 := h1
    rcases hd3 with e2 | ⟨a, e2, ha, hza⟩
    · have ew : wyA A (N d) x = m2 := by rw [ej]; exact ((show wyA A (nI j) x = A 3 j by unfold wyA; rw [if_neg h1n, show nC (nI j) = j from nI_clamp (by omega)])).trans e2
      iterate 6 (refine zv_step (bX7_down 1) rfl rfl trivial ?_)
      refine zv_iale (bX7_down 1) rfl rfl (vp_in_nI (by omega) (by decide)) (show N (nI d).toNatClampNeg = nI j by rw [nI_clamp (by omega)]; exact ej) ?_
      refine zv_iale (bX7_down 1) rfl rfl (vp_in_nI (by omega) (by decide)) (show A 3 (nI j).toNatClampNeg = m2 by rw [nI_clamp (by omega)]; exact e2) ?_
      iterate 3 (refine zv_step (bX7_down 1) rfl rfl trivial ?_)
      refine zv_ift (by decide) ?_
      iterate 2 (refine zv_step (bX7_down 1) rfl rfl trivial ?_)
      refine zv_ift (by decide) ?_
      iterate 1 (refine zv_step (bX7_down 1) rfl rfl trivial ?_)
      exact zv_iret (bX7_down 1) rfl (Or.inr ⟨rfl, Or.inl rfl⟩) (Nat.zero_le _) (Nat.zero_le _) ⟨by
        rw [show sdA A x (d, N, D) = (d, N, D) from by unfold sdA; rw [ew, if_pos (by decide)]], Or.inr ⟨ew, rfl⟩⟩
    · have ew : wyA A (N d) x = nI a := by rw [ej]; exact ((show wyA A (nI j) x = A 3 j by unfold wyA; rw [if_neg h1n, show nC (nI j) = j from nI_clamp (by omega)])).trans e2
      iterate 6 (refine zv_step (bX7_down 1) rfl rfl trivial ?_)
      refine zv_iale (bX7_down 1) rfl rfl (vp_in_nI (by omega) (by decide)) (show N (nI d).toNatClampNeg = nI j by rw [nI_clamp (by omega)]; exact ej) ?_
      refine zv_iale (bX7_down 1) rfl rfl (vp_in_nI (by omega) (by decide)) (show A 3 (nI j).toNatClampNeg = nI a by rw [nI_clamp (by omega)]; exact e2) ?_
      iterate 3 (refine zv_step (bX7_down 1) rfl rfl trivial ?_)
      refine zv_iff (nI_pos (by omega)) ?_
      iterate 7 (refine zv_step (bX7_down 1) rfl rfl trivial ?_)
      refine zv_step (bX7_down 1) rfl rfl (show vp_in (nI d + Int32.ofInt 1) 41 by rw [show nI d + Int32.ofInt 1 = nI (d + 1) from nI_1 d]; exact vp_in_nI (by omega) (by decide)) ?_
      iterate 7 (refine zv_step (bX7_down 1) rfl rfl trivial ?_)
      refine zv_step (bX7_down 1) rfl rfl (show vp_in (nI d + Int32.ofInt 1) 41 by rw [show nI d + Int32.ofInt 1 = nI (d + 1) from nI_1 d]; exact vp_in_nI (by omega) (by decide)) ?_
      iterate 8 (refine zv_step (bX7_down 1) rfl rfl trivial ?_)
      refine zv_iff (nI_pos (by omega)) ?_
      iterate 2 (refine zv_step (bX7_down 1) rfl rfl trivial ?_)
      exact zv_iret (bX7_down 1) rfl (Or.inr ⟨rfl, Or.inr rfl⟩) (Nat.zero_le _) (Nat.zero_le _) ⟨by
        rw [show sdA A x (d, N, D) = (d + 1, upd N (d + 1) (nI a), upd D (d + 1) x) from by unfold sdA; rw [ew, if_neg (nI_pos (by omega))]]
        show wR f (upd o 33 (nI d + Int32.ofInt 1)) (updA (updA A 20 (upd N (nI d + Int32.ofInt 1).toNatClampNeg (nI a))) 21 (upd D (nI d + Int32.ofInt 1).toNatClampNeg x)) J = _
        rw [e7, e8], Or.inl ⟨⟨a, by omega, ew⟩, rfl⟩⟩
  · have h1y : x = 0 := Decidable.not_not.mp h1
    rcases hd2 with e2 | ⟨a, e2, ha, hza⟩
    · have ew : wyA A (N d) x = m2 := by rw [ej]; exact ((show wyA A (nI j) x = A 2 j by unfold wyA; rw [if_pos h1y, show nC (nI j) = j from nI_clamp (by omega)])).trans e2
      iterate 6 (refine zv_step (bX7_down 1) rfl rfl trivial ?_)
      refine zv_iale (bX7_down 1) rfl rfl (vp_in_nI (by omega) (by decide)) (show N (nI d).toNatClampNeg = nI j by rw [nI_clamp (by omega)]; exact ej) ?_
      refine zv_iale (bX7_down 1) rfl rfl (vp_in_nI (by omega) (by decide)) (show A 2 (nI j).toNatClampNeg = m2 by rw [nI_clamp (by omega)]; exact e2) ?_
      iterate 4 (refine zv_step (bX7_down 1) rfl rfl trivial ?_)
      refine zv_ift (by decide) ?_
      iterate 2 (refine zv_step (bX7_down 1) rfl rfl trivial ?_)
      refine zv_ift (by decide) ?_
      iterate 1 (refine zv_step (bX7_down 1) rfl rfl trivial ?_)
      exact zv_iret (bX7_down 1) rfl (Or.inr ⟨rfl, Or.inl rfl⟩) (Nat.zero_le _) (Nat.zero_le _) ⟨by
        rw [show sdA A x (d, N, D) = (d, N, D) from by unfold sdA; rw [ew, if_pos (by decide)]], Or.inr ⟨ew, rfl⟩⟩
    · have ew : wyA A (N d) x = nI a := by rw [ej]; exact ((show wyA A (nI j) x = A 2 j by unfold wyA; rw [if_pos h1y, show nC (nI j) = j from nI_clamp (by omega)])).trans e2
      iterate 6 (refine zv_step (bX7_down 1) rfl rfl trivial ?_)
      refine zv_iale (bX7_down 1) rfl rfl (vp_in_nI (by omega) (by decide)) (show N (nI d).toNatClampNeg = nI j by rw [nI_clamp (by omega)]; exact ej) ?_
      refine zv_iale (bX7_down 1) rfl rfl (vp_in_nI (by omega) (by decide)) (show A 2 (nI j).toNatClampNeg = nI a by rw [nI_clamp (by omega)]; exact e2) ?_
      iterate 4 (refine zv_step (bX7_down 1) rfl rfl trivial ?_)
      refine zv_iff (nI_pos (by omega)) ?_
      iterate 7 (refine zv_step (bX7_down 1) rfl rfl trivial ?_)
      refine zv_step (bX7_down 1) rfl rfl (show vp_in (nI d + Int32.ofInt 1) 41 by rw [show nI d + Int32.ofInt 1 = nI (d + 1) from nI_1 d]; exact vp_in_nI (by omega) (by decide)) ?_
      iterate 7 (refine zv_step (bX7_down 1) rfl rfl trivial ?_)
      refine zv_step (bX7_down 1) rfl rfl (show vp_in (nI d + Int32.ofInt 1) 41 by rw [show nI d + Int32.ofInt 1 = nI (d + 1) from nI_1 d]; exact vp_in_nI (by omega) (by decide)) ?_
      iterate 8 (refine zv_step (bX7_down 1) rfl rfl trivial ?_)
      refine zv_iff (nI_pos (by omega)) ?_
      iterate 2 (refine zv_step (bX7_down 1) rfl rfl trivial ?_)
      exact zv_iret (bX7_down 1) rfl (Or.inr ⟨rfl, Or.inr rfl⟩) (Nat.zero_le _) (Nat.zero_le _) ⟨by
        rw [show sdA A x (d, N, D) = (d + 1, upd N (d + 1) (nI a), upd D (d + 1) x) from by unfold sdA; rw [ew, if_neg (nI_pos (by omega))]]
        show wR f (upd o 33 (nI d + Int32.ofInt 1)) (updA (updA A 20 (upd N (nI d + Int32.ofInt 1).toNatClampNeg (nI a))) 21 (upd D (nI d + Int32.ofInt 1).toNatClampNeg x)) J = _
        rw [e7, e8], Or.inl ⟨⟨a, by omega, ew⟩, rfl⟩⟩
noncomputable def goA (A : Nat → Nat → Int32) (c : Nat) (s : Nat × (Nat → Int32) × (Nat → Int32)) : Option (Nat × (Nat → Int32) × (Nat → Int32)) :=
  if c < 2 then (if wyA A (s.2.1 s.1) (nI c) < 0 then none else some (sdA A (nI c) s))
  else if s.1 = 0 then none else if c = 2 then some (s.1 - 1, s.2.1, s.2.2) else (if A 3 (nC (s.2.1 (s.1 - 1))) < 0 then none else some (sdA A (Int32.ofInt 1 - s.2.2 s.1) (s.1 - 1, s.2.1, s.2.2)))
theorem sdA_m2 {A : Nat → Nat → Int32} {w : Int32} {d : Nat} {N D : Nat → Int32} (e : wyA A (N d) w = m2) : sdA A w (d, N, D) = (d, N, D) := by
  unfold sdA
  rw [e, if_pos (by decide)]
set_option maxHeartbeats 1000000 in
set_option maxRecDepth 20000 in
theorem mGoX (f : Nat → zC) (o : Nat → Int32) (A : Nat → Nat → Int32) (J : Nat → Nat → Int64) {u : Nat} (hu : u ≤ 120) (hT : tbI 0 u A) {d : Nat} (hd : d ≤ 39) {N : Nat → Int32} (D : Nat → Int32) (hb : o 30 = 0 ∨ o 30 = 1) (hr : o 30 = 1 → ∃ t, t < u ∧ rtM A t d N) (x : Int32) : zK 2 zX7_go [.ref 76, .int x] (wR f (upd o 33 (nI d)) (updA (updA A 20 N) 21 D) J) (fun r w' => ∃ (s' : Nat × (Nat → Int32) × (Nat → Int32)) (R : Int32), r = some (.int R) ∧ w' = (wR f (upd o 33 (nI s'.1)) (updA (updA A 20 s'.2.1) 21 s'.2.2) J) ∧ (o 30 = 1 → ∃ t, (t < u ∧ N 0 = nI t) ∧ rtM A t s'.1 s'.2.1) ∧ s'.1 ≤ 39 ∧ goR (o 30 = 1) (goA A) (d, N, D) x s' R) := by
  refine zK_of qX7_go (by decide +kernel) rfl ?_
  iterate 4 (refine zv_step (bX7_go 2) rfl rfl trivial ?_)
  refine zv_S3 (bX7_go 2) rfl rfl rfl rfl ⟨rfl, rfl, rfl⟩ ⟨by decide, by decide⟩ ⟨Nat.zero_le _, Nat.zero_le _⟩ (mIn _ _ _ _ (a := 0) (b := 3) (by decide) (by decide)) ?_
  rintro _ _ ⟨rfl, ⟨g1, rfl⟩ | ⟨g1, rfl⟩⟩
  · try rw [Int32.toInt_toInt64] at g1
    obtain ⟨c, hc, rfl⟩ := in_nat (x := x) (b := 3) (by decide) g1
    iterate 1 (refine zv_step (bX7_go 2) rfl rfl trivial ?_)
    refine zv_ift (by decide) ?_
    iterate 3 (refine zv_step (bX7_go 2) rfl rfl trivial ?_)
    refine zv_ifb (fun h18 => ?_) (fun h18 => ?_)
    · have hb1 : o 30 = 1 := hb.resolve_left h18
      obtain ⟨t, ht, hr0⟩ := hr hb1
      rcases (show c = 0 ∨ c = 1 ∨ c = 2 ∨ c = 3 by omega) with rfl | rfl | rfl | rfl
      · skip
        iterate 3 (refine zv_step (bX7_go 2) rfl rfl trivial ?_)
        refine zv_iff (by decide) ?_
        iterate 2 (refine zv_step (bX7_go 2) rfl rfl trivial ?_)
        refine zv_V1 (bX7_go 2) rfl rfl rfl rfl rfl rfl rfl ⟨rfl, rfl, rfl⟩ ⟨by decide, by decide⟩ ⟨Nat.zero_le _, Nat.zero_le _⟩ (mDownX f o A J hu hT ht D hr0 _) ?_
        rintro _ _ ⟨rfl, ⟨⟨a, ha9, ew⟩, rfl⟩ | ⟨ew, rfl⟩⟩
        · have hr1 := rt_sdA hu hT ht (nI 0) (s := (d, N, D)) hr0
          have hd1 := rtM_d hT ht hr1
          iterate 1 (refine zv_step (bX7_go 2) rfl rfl trivial ?_)
          refine zv_iff (by decide) ?_
          iterate 4 (refine zv_step (bX7_go 2) rfl rfl trivial ?_)
          refine zv_iale (bX7_go 2) rfl rfl (show vp_in (nI (sdA A (nI 0) (d, N, D)).1) 41 from vp_in_nI (by omega) (by decide)) (show (sdA A (nI 0) (d, N, D)).2.1 (nI (sdA A (nI 0) (d, N, D)).1).toNatClampNeg = (sdA A (nI 0) (d, N, D)).2.1 (sdA A (nI 0) (d, N, D)).1 by rw [nI_clamp (by omega)]) ?_
          iterate 1 (refine zv_step (bX7_go 2) rfl rfl trivial ?_)
          exact zv_iret (bX7_go 2) rfl (Or.inl rfl) (Nat.zero_le _) (Nat.zero_le _) ⟨(sdA A (nI 0) (d, N, D)), _, rfl, rfl, fun _ => ⟨t, ⟨ht, hr0.1⟩, hr1⟩, hd1, Or.inr (Or.inr ⟨hb1, 0, by decide, rfl, Or.inr ⟨show goA A 0 (d, N, D) = _ from by unfold goA; rw [if_pos (by decide), if_neg (show ¬ wyA A (N d) (nI 0) < 0 by rw [ew]; exact nI_pos (by omega))], rfl⟩⟩)⟩
        · skip
          iterate 1 (refine zv_step (bX7_go 2) rfl rfl trivial ?_)
          refine zv_ift (by decide) ?_
          iterate 1 (refine zv_step (bX7_go 2) rfl rfl trivial ?_)
          exact zv_iret (bX7_go 2) rfl (Or.inl rfl) (Nat.zero_le _) (Nat.zero_le _) ⟨(d, N, D), _, rfl, by rw [sdA_m2 ew], fun h => by obtain ⟨t, ht, k⟩ := hr h; exact ⟨t, ⟨ht, k.1⟩, k⟩, hd, Or.inr (Or.inr ⟨hb1, 0, by decide, rfl, Or.inl ⟨show goA A 0 (d, N, D) = none from by unfold goA; rw [if_pos (by decide), if_pos (show wyA A (N d) (nI 0) < 0 by rw [ew]; decide)], rfl, rfl⟩⟩)⟩
      · skip
        iterate 3 (refine zv_step (bX7_go 2) rfl rfl trivial ?_)
        refine zv_iff (by decide) ?_
        iterate 2 (refine zv_step (bX7_go 2) rfl rfl trivial ?_)
        refine zv_V1 (bX7_go 2) rfl rfl rfl rfl rfl rfl rfl ⟨rfl, rfl, rfl⟩ ⟨by decide, by decide⟩ ⟨Nat.zero_le _, Nat.zero_le _⟩ (mDownX f o A J hu hT ht D hr0 _) ?_
        rintro _ _ ⟨rfl, ⟨⟨a, ha9, ew⟩, rfl⟩ | ⟨ew, rfl⟩⟩
        · have hr1 := rt_sdA hu hT ht (nI 1) (s := (d, N, D)) hr0
          have hd1 := rtM_d hT ht hr1
          iterate 1 (refine zv_step (bX7_go 2) rfl rfl trivial ?_)
          refine zv_iff (by decide) ?_
          iterate 4 (refine zv_step (bX7_go 2) rfl rfl trivial ?_)
          refine zv_iale (bX7_go 2) rfl rfl (show vp_in (nI (sdA A (nI 1) (d, N, D)).1) 41 from vp_in_nI (by omega) (by decide)) (show (sdA A (nI 1) (d, N, D)).2.1 (nI (sdA A (nI 1) (d, N, D)).1).toNatClampNeg = (sdA A (nI 1) (d, N, D)).2.1 (sdA A (nI 1) (d, N, D)).1 by rw [nI_clamp (by omega)]) ?_
          iterate 1 (refine zv_step (bX7_go 2) rfl rfl trivial ?_)
          exact zv_iret (bX7_go 2) rfl (Or.inl rfl) (Nat.zero_le _) (Nat.zero_le _) ⟨(sdA A (nI 1) (d, N, D)), _, rfl, rfl, fun _ => ⟨t, ⟨ht, hr0.1⟩, hr1⟩, hd1, Or.inr (Or.inr ⟨hb1, 1, by decide, rfl, Or.inr ⟨show goA A 1 (d, N, D) = _ from by unfold goA; rw [if_pos (by decide), if_neg (show ¬ wyA A (N d) (nI 1) < 0 by rw [ew]; exact nI_pos (by omega))], rfl⟩⟩)⟩
        · skip
          iterate 1 (refine zv_step (bX7_go 2) rfl rfl trivial ?_)
          refine zv_ift (by decide) ?_
          iterate 1 (refine zv_step (bX7_go 2) rfl rfl trivial ?_)
          exact zv_iret (bX7_go 2) rfl (Or.inl rfl) (Nat.zero_le _) (Nat.zero_le _) ⟨(d, N, D), _, rfl, by rw [sdA_m2 ew], fun h => by obtain ⟨t, ht, k⟩ := hr h; exact ⟨t, ⟨ht, k.1⟩, k⟩, hd, Or.inr (Or.inr ⟨hb1, 1, by decide, rfl, Or.inl ⟨show goA A 1 (d, N, D) = none from by unfold goA; rw [if_pos (by decide), if_pos (show wyA A (N d) (nI 1) < 0 by rw [ew]; decide)], rfl, rfl⟩⟩)⟩
      · skip
        iterate 3 (refine zv_step (bX7_go 2) rfl rfl trivial ?_)
        refine zv_ift (by decide) ?_
        iterate 3 (refine zv_step (bX7_go 2) rfl rfl trivial ?_)
        refine zv_ifb (fun h56 => ?_) (fun h56 => ?_)
        · have d0 : d = 0 := (nI_eq (by omega) (by decide)).mp h56
          iterate 1 (refine zv_step (bX7_go 2) rfl rfl trivial ?_)
          exact zv_iret (bX7_go 2) rfl (Or.inl rfl) (Nat.zero_le _) (Nat.zero_le _) ⟨(d, N, D), _, rfl, rfl, fun h => by obtain ⟨t, ht, k⟩ := hr h; exact ⟨t, ⟨ht, k.1⟩, k⟩, hd, Or.inr (Or.inr ⟨hb1, 2, by decide, rfl, Or.inl ⟨show goA A 2 (d, N, D) = none from by unfold goA; rw [if_neg (by decide), if_pos d0], rfl, rfl⟩⟩)⟩
        · have d0 : d ≠ 0 := fun e => h56 (by rw [e]; rfl)
          obtain ⟨j, hj, ej, hz⟩ := hr0.2 (d - 1) (by omega)
          have em : nI d - Int32.ofInt 1 = nI (d - 1) := sub_1 (by omega)
          iterate 3 (refine zv_step (bX7_go 2) rfl rfl trivial ?_)
          refine zv_ift (by decide) ?_
          iterate 6 (refine zv_step (bX7_go 2) rfl rfl trivial ?_)
          refine zv_world (show _ = (wR f (upd o 33 (nI (d - 1))) (updA (updA A 20 N) 21 D) J) from by rw [← em]; rfl) ?_
          iterate 3 (refine zv_step (bX7_go 2) rfl rfl trivial ?_)
          refine zv_ift (by decide) ?_
          iterate 4 (refine zv_step (bX7_go 2) rfl rfl trivial ?_)
          refine zv_iale (bX7_go 2) rfl rfl (show vp_in (nI (d - 1)) 41 from vp_in_nI (by omega) (by decide)) (show N (nI (d - 1)).toNatClampNeg = N (d - 1) by rw [nI_clamp (by omega)]) ?_
          exact zv_iret (bX7_go 2) rfl (Or.inl rfl) (Nat.zero_le _) (Nat.zero_le _) ⟨(d - 1, N, D), _, rfl, rfl, fun _ => ⟨t, ⟨ht, hr0.1⟩, rtM_up hr0 (show d - 1 ≤ d by omega)⟩, show d - 1 ≤ 39 by omega, Or.inr (Or.inr ⟨hb1, 2, by decide, rfl, Or.inr ⟨show goA A 2 (d, N, D) = _ from by unfold goA; rw [if_neg (by decide), if_neg d0, if_pos rfl], rfl⟩⟩)⟩
      · skip
        iterate 3 (refine zv_step (bX7_go 2) rfl rfl trivial ?_)
        refine zv_ift (by decide) ?_
        iterate 3 (refine zv_step (bX7_go 2) rfl rfl trivial ?_)
        refine zv_ifb (fun h56 => ?_) (fun h56 => ?_)
        · have d0 : d = 0 := (nI_eq (by omega) (by decide)).mp h56
          iterate 1 (refine zv_step (bX7_go 2) rfl rfl trivial ?_)
          exact zv_iret (bX7_go 2) rfl (Or.inl rfl) (Nat.zero_le _) (Nat.zero_le _) ⟨(d, N, D), _, rfl, rfl, fun h => by obtain ⟨t, ht, k⟩ := hr h; exact ⟨t, ⟨ht, k.1⟩, k⟩, hd, Or.inr (Or.inr ⟨hb1, 3, by decide, rfl, Or.inl ⟨show goA A 3 (d, N, D) = none from by unfold goA; rw [if_neg (by decide), if_pos d0], rfl, rfl⟩⟩)⟩
        · have d0 : d ≠ 0 := fun e => h56 (by rw [e]; rfl)
          obtain ⟨j, hj, ej, hz⟩ := hr0.2 (d - 1) (by omega)
          have em : nI d - Int32.ofInt 1 = nI (d - 1) := sub_1 (by omega)
          iterate 3 (refine zv_step (bX7_go 2) rfl rfl trivial ?_)
          refine zv_iff (by decide) ?_
          iterate 8 (refine zv_step (bX7_go 2) rfl rfl trivial ?_)
          refine zv_iale (bX7_go 2) rfl rfl (show vp_in (nI d - Int32.ofInt 1) 41 by rw [em]; exact vp_in_nI (by omega) (by decide)) (show N (nI d - Int32.ofInt 1).toNatClampNeg = nI j by rw [em, nI_clamp (by omega)]; exact ej) ?_
          refine zv_iale (bX7_go 2) rfl rfl (vp_in_nI (by omega) (by decide)) (show A 3 (nI j).toNatClampNeg = A 3 (nC (N (d - 1))) by rw [ej]; rfl) ?_
          iterate 1 (refine zv_step (bX7_go 2) rfl rfl trivial ?_)
          refine zv_ifb (fun h80 => ?_) (fun h80 => ?_)
          · have q80 : ¬ A 3 (nC (N (d - 1))) < 0 := Int32.not_lt.mpr h80
            iterate 6 (refine zv_step (bX7_go 2) rfl rfl trivial ?_)
            refine zv_world (show _ = (wR f (upd o 33 (nI (d - 1))) (updA (updA A 20 N) 21 D) J) from by rw [← em]; rfl) ?_
            iterate 3 (refine zv_step (bX7_go 2) rfl rfl trivial ?_)
            refine zv_iff (by decide) ?_
            iterate 8 (refine zv_step (bX7_go 2) rfl rfl trivial ?_)
            refine zv_iale (bX7_go 2) rfl rfl (show vp_in (nI (d - 1) + Int32.ofInt 1) 41 by rw [show nI (d - 1) + Int32.ofInt 1 = nI (d - 1 + 1) from nI_1 _]; exact vp_in_nI (by omega) (by decide)) (show D (nI (d - 1) + Int32.ofInt 1).toNatClampNeg = D d by rw [show nI (d - 1) + Int32.ofInt 1 = nI (d - 1 + 1) from nI_1 _, nI_clamp (by omega), show d - 1 + 1 = d by omega]) ?_
            iterate 1 (refine zv_step (bX7_go 2) rfl rfl trivial ?_)
            refine zv_V1 (bX7_go 2) rfl rfl rfl rfl rfl rfl rfl ⟨rfl, rfl, rfl⟩ ⟨by decide, by decide⟩ ⟨Nat.zero_le _, Nat.zero_le _⟩ (mDownX f o A J hu hT ht D (rtM_up hr0 (show d - 1 ≤ d by omega)) _) ?_
            rintro _ _ ⟨rfl, ⟨⟨a, ha9, ew⟩, rfl⟩ | ⟨ew, rfl⟩⟩
            · have hr1 := rt_sdA hu hT ht (Int32.ofInt 1 - D d) (s := (d - 1, N, D)) (rtM_up hr0 (show d - 1 ≤ d by omega))
              have hd1 := rtM_d hT ht hr1
              iterate 5 (refine zv_step (bX7_go 2) rfl rfl trivial ?_)
              refine zv_iale (bX7_go 2) rfl rfl (show vp_in (nI (sdA A (Int32.ofInt 1 - D d) (d - 1, N, D)).1) 41 from vp_in_nI (by omega) (by decide)) (show (sdA A (Int32.ofInt 1 - D d) (d - 1, N, D)).2.1 (nI (sdA A (Int32.ofInt 1 - D d) (d - 1, N, D)).1).toNatClampNeg = (sdA A (Int32.ofInt 1 - D d) (d - 1, N, D)).2.1 (sdA A (Int32.ofInt 1 - D d) (d - 1, N, D)).1 by rw [nI_clamp (by omega)]) ?_
              exact zv_iret (bX7_go 2) rfl (Or.inl rfl) (Nat.zero_le _) (Nat.zero_le _) ⟨(sdA A (Int32.ofInt 1 - D d) (d - 1, N, D)), _, rfl, rfl, fun _ => ⟨t, ⟨ht, hr0.1⟩, hr1⟩, hd1, Or.inr (Or.inr ⟨hb1, 3, by decide, rfl, Or.inr ⟨show goA A 3 (d, N, D) = some (sdA A (Int32.ofInt 1 - D d) (d - 1, N, D)) from by unfold goA; rw [if_neg (by decide), if_neg d0, if_neg (by decide), if_neg q80], rfl⟩⟩)⟩
            · have hr1 := rt_sdA hu hT ht (Int32.ofInt 1 - D d) (s := (d - 1, N, D)) (rtM_up hr0 (show d - 1 ≤ d by omega))
              have hd1 := rtM_d hT ht hr1
              iterate 5 (refine zv_step (bX7_go 2) rfl rfl trivial ?_)
              refine zv_iale (bX7_go 2) rfl rfl (show vp_in (nI (sdA A (Int32.ofInt 1 - D d) (d - 1, N, D)).1) 41 from vp_in_nI (by omega) (by decide)) (show (sdA A (Int32.ofInt 1 - D d) (d - 1, N, D)).2.1 (nI (sdA A (Int32.ofInt 1 - D d) (d - 1, N, D)).1).toNatClampNeg = (sdA A (Int32.ofInt 1 - D d) (d - 1, N, D)).2.1 (sdA A (Int32.ofInt 1 - D d) (d - 1, N, D)).1 by rw [nI_clamp (by omega)]) ?_
              exact zv_iret (bX7_go 2) rfl (Or.inl rfl) (Nat.zero_le _) (Nat.zero_le _) ⟨(sdA A (Int32.ofInt 1 - D d) (d - 1, N, D)), _, rfl, rfl, fun _ => ⟨t, ⟨ht, hr0.1⟩, hr1⟩, hd1, Or.inr (Or.inr ⟨hb1, 3, by decide, rfl, Or.inr ⟨show goA A 3 (d, N, D) = some (sdA A (Int32.ofInt 1 - D d) (d - 1, N, D)) from by unfold goA; rw [if_neg (by decide), if_neg d0, if_neg (by decide), if_neg q80], rfl⟩⟩)⟩
          · have q80 : A 3 (nC (N (d - 1))) < 0 := Int32.not_le.mp h80
            iterate 1 (refine zv_step (bX7_go 2) rfl rfl trivial ?_)
            exact zv_iret (bX7_go 2) rfl (Or.inl rfl) (Nat.zero_le _) (Nat.zero_le _) ⟨(d, N, D), _, rfl, rfl, fun h => by obtain ⟨t, ht, k⟩ := hr h; exact ⟨t, ⟨ht, k.1⟩, k⟩, hd, Or.inr (Or.inr ⟨hb1, 3, by decide, rfl, Or.inl ⟨show goA A 3 (d, N, D) = none from by unfold goA; rw [if_neg (by decide), if_neg d0, if_neg (by decide), if_pos q80], rfl, rfl⟩⟩)⟩
    · iterate 1 (refine zv_step (bX7_go 2) rfl rfl trivial ?_)
      exact zv_iret (bX7_go 2) rfl (Or.inl rfl) (Nat.zero_le _) (Nat.zero_le _) ⟨(d, N, D), _, rfl, rfl, fun h => by obtain ⟨t, ht, k⟩ := hr h; exact ⟨t, ⟨ht, k.1⟩, k⟩, hd, Or.inr (Or.inl ⟨g1, fun q => h18 (fun w => absurd (q.symm.trans w) (by decide)), rfl, rfl⟩)⟩
  · try rw [Int32.toInt_toInt64] at g1
    iterate 1 (refine zv_step (bX7_go 2) rfl rfl trivial ?_)
    refine zv_iff (by decide) ?_
    iterate 1 (refine zv_step (bX7_go 2) rfl rfl trivial ?_)
    exact zv_iret (bX7_go 2) rfl (Or.inl rfl) (Nat.zero_le _) (Nat.zero_le _) ⟨(d, N, D), _, rfl, rfl, fun h => by obtain ⟨t, ht, k⟩ := hr h; exact ⟨t, ⟨ht, k.1⟩, k⟩, hd, Or.inl ⟨rfl, g1, rfl⟩⟩
