set_option maxHeartbeats 1000000 in
set_option maxRecDepth 20000 in
theorem sSameL (O : Nat → Int32) (P : Nat → Nat → Int32) (Y : Nat → Nat → Int64) (g : Nat → zC) {q : Nat} (hq : q ≤ 80) (hO : O 3 = nI q) {n0 : Nat} : ∀ (c i : Nat), i + c = q → ∀ {x2 : Int32}, x2 = nI i → zV (zMo 1 zX4_isSameAs) false n0 0 0 22 [(2, .int x2), (0, .ref 27), (1, .ref 29)] [] (wX O P Y g) (fun r w' => w' = wX O P Y g ∧ (r = some (.int 1) ∨ r = some (.int 0))) := by
  intro c
  induction c with
  | zero =>
    intro i hc x2 e2
    subst e2
    iterate 4 (refine zv_step (bX4_isSameAs 1) rfl rfl trivial ?_)
    refine zv_ift (show O 3 ≤ nI i by rw [hO]; exact nI_le (by omega) (by omega)) ?_
    iterate 1 (refine zv_step (bX4_isSameAs 1) rfl rfl trivial ?_)
    exact zv_iret (bX4_isSameAs 1) rfl (Or.inr ⟨rfl, Or.inr rfl⟩) (Nat.zero_le _) (Nat.zero_le _) ⟨rfl, Or.inl rfl⟩
  | succ c ih =>
    intro i hc x2 e2
    subst e2
    iterate 4 (refine zv_step (bX4_isSameAs 1) rfl rfl trivial ?_)
    refine zv_iff (show ¬ O 3 ≤ nI i by rw [hO]; exact nI_ge (by omega) (by omega)) ?_
    iterate 3 (refine zv_step (bX4_isSameAs 1) rfl rfl trivial ?_)
    refine zv_step (bX4_isSameAs 1) rfl rfl (show vp_in (nI i) 80 from vp_in_nI (by omega) (by decide)) ?_
    iterate 3 (refine zv_step (bX4_isSameAs 1) rfl rfl trivial ?_)
    refine zv_step (bX4_isSameAs 1) rfl rfl (show vp_in (nI i) 80 from vp_in_nI (by omega) (by decide)) ?_
    iterate 1 (refine zv_step (bX4_isSameAs 1) rfl rfl trivial ?_)
    refine zv_ifb (fun h1 => ?_) (fun h1 => ?_)
    · iterate 2 (refine zv_step (bX4_isSameAs 1) rfl rfl trivial ?_)
      exact ih (i + 1) (by omega) (nI_1 i)
    · iterate 1 (refine zv_step (bX4_isSameAs 1) rfl rfl trivial ?_)
      exact zv_iret (bX4_isSameAs 1) rfl (Or.inr ⟨rfl, Or.inl rfl⟩) (Nat.zero_le _) (Nat.zero_le _) ⟨rfl, Or.inr rfl⟩
set_option maxHeartbeats 1000000 in
set_option maxRecDepth 20000 in
theorem sSame (O : Nat → Int32) (P : Nat → Nat → Int32) (Y : Nat → Nat → Int64) (g : Nat → zC) {q : Nat} (hq : q < 2 ^ 30) (hO : O 3 = nI q) : zK 1 zX4_isSameAs [.ref 27, .ref 29] (wX O P Y g) (fun r w' => w' = wX O P Y g ∧ (r = some (.int 1) ∨ r = some (.int 0))) := by
  refine zK_of qX4_isSameAs (by decide +kernel) rfl ?_
  iterate 5 (refine zv_step (bX4_isSameAs 1) rfl rfl trivial ?_)
  refine zv_ifb (fun h0 => ?_) (fun h0 => ?_)
  · iterate 1 (refine zv_step (bX4_isSameAs 1) rfl rfl trivial ?_)
    exact zv_iret (bX4_isSameAs 1) rfl (Or.inr ⟨rfl, Or.inl rfl⟩) (Nat.zero_le _) (Nat.zero_le _) ⟨rfl, Or.inr rfl⟩
  · iterate 1 (refine zv_step (bX4_isSameAs 1) rfl rfl trivial ?_)
    refine zv_V0 (bX4_isSameAs 1) rfl rfl rfl rfl rfl rfl rfl ⟨rfl, rfl, rfl⟩ ⟨by decide, by decide⟩ ⟨Nat.zero_le _, Nat.zero_le _⟩ (sLong27 O P Y g) ?_
    rintro _ _ ⟨rfl, ⟨hh, rfl⟩ | ⟨hh, rfl⟩⟩
    · iterate 1 (refine zv_step (bX4_isSameAs 1) rfl rfl trivial ?_)
      refine zv_iff (by decide) ?_
      iterate 1 (refine zv_step (bX4_isSameAs 1) rfl rfl trivial ?_)
      exact zv_iret (bX4_isSameAs 1) rfl (Or.inr ⟨rfl, Or.inl rfl⟩) (Nat.zero_le _) (Nat.zero_le _) ⟨rfl, Or.inr rfl⟩
    · iterate 1 (refine zv_step (bX4_isSameAs 1) rfl rfl trivial ?_)
      refine zv_ift (by decide) ?_
      rw [hO, nI_toInt (by omega)] at hh
      iterate 2 (refine zv_step (bX4_isSameAs 1) rfl rfl trivial ?_)
      exact sSameL O P Y g (by omega) hO q 0 (by omega) rfl
set_option maxHeartbeats 1000000 in
set_option maxRecDepth 20000 in
theorem pTimesL (O : Nat → Int32) (P : Nat → Nat → Int32) (Y : Nat → Nat → Int64) (g : Nat → zC) (hu : (O 1).toInt ≤ 120) {y : Int32} (hy : vp_in y 120) {j : Nat} (hj : j < 120) {n0 : Nat} : ∀ (c i : Nat), i + c = j + 1 → ∀ {R : Nat → Int32} {x3 : Int32}, x3 = nI i → zV (zMo 2 zX2_timesWithin) false n0 0 0 2 [(3, .int x3), (0, .ref 1), (1, .int (nI j)), (2, .int y)] [] (wX O (updA P 13 R) Y g) (fun r w' => ∃ (R' : Nat → Int32) (v : Int32), r = some (.int v) ∧ w' = wX O (updA P 13 R') Y g) := by
  intro c
  induction c with
  | zero =>
    intro i hc R x3 e3
    subst e3
    iterate 3 (refine zv_step (bX2_timesWithin 2) rfl rfl trivial ?_)
    refine zv_ift (nI_lt (by omega) (by omega)) ?_
    iterate 3 (refine zv_step (bX2_timesWithin 2) rfl rfl trivial ?_)
    refine zv_step (bX2_timesWithin 2) rfl rfl (show vp_in (nI j) 120 from vp_in_nI (by omega) (by decide)) ?_
    exact zv_iret (bX2_timesWithin 2) rfl (Or.inl rfl) (Nat.zero_le _) (Nat.zero_le _) ⟨R, _, rfl, rfl⟩
  | succ c ih =>
    intro i hc R x3 e3
    subst e3
    iterate 3 (refine zv_step (bX2_timesWithin 2) rfl rfl trivial ?_)
    refine zv_iff (nI_nlt (by omega) (by omega)) ?_
    iterate 6 (refine zv_step (bX2_timesWithin 2) rfl rfl trivial ?_)
    refine zv_V2 (bX2_timesWithin 2) rfl rfl rfl rfl rfl rfl rfl ⟨rfl, rfl, rfl⟩ ⟨by decide, by decide⟩ ⟨Nat.zero_le _, Nat.zero_le _⟩ (pAlike1 O (updA P 13 R) Y g (show vp_in (nI i) 120 from vp_in_nI (by omega) (by decide)) hy) ?_
    rintro _ _ ⟨rfl, ⟨hh, rfl⟩ | ⟨hh, rfl⟩⟩
    · iterate 1 (refine zv_step (bX2_timesWithin 2) rfl rfl trivial ?_)
      refine zv_iff (by decide) ?_
      iterate 6 (refine zv_step (bX2_timesWithin 2) rfl rfl trivial ?_)
      refine zv_step (bX2_timesWithin 2) rfl rfl (show vp_in (nI i) 120 from vp_in_nI (by omega) (by decide)) ?_
      refine zv_V1 (bX2_timesWithin 2) rfl rfl rfl rfl rfl rfl rfl ⟨rfl, rfl, rfl⟩ ⟨by decide, by decide⟩ ⟨Nat.zero_le _, Nat.zero_le _⟩ (pTally1 O (updA P 13 R) Y g hu _) ?_
      rintro r _ ⟨rfl, hr⟩
      obtain ⟨a1, rfl⟩ : ∃ a, r = some (.int a) := hr.elim (fun q => ⟨_, q.2⟩) (fun q => ⟨_, q.2⟩)
      iterate 5 (refine zv_step (bX2_timesWithin 2) rfl rfl trivial ?_)
      refine zv_step (bX2_timesWithin 2) rfl rfl (show vp_in (nI i) 120 from vp_in_nI (by omega) (by decide)) ?_
      refine zv_V1 (bX2_timesWithin 2) rfl rfl rfl rfl rfl rfl rfl ⟨rfl, rfl, rfl⟩ ⟨by decide, by decide⟩ ⟨Nat.zero_le _, Nat.zero_le _⟩ (pTally1 O (updA P 13 R) Y g hu _) ?_
      rintro r _ ⟨rfl, hr⟩
      obtain ⟨a2, rfl⟩ : ∃ a, r = some (.int a) := hr.elim (fun q => ⟨_, q.2⟩) (fun q => ⟨_, q.2⟩)
      iterate 1 (refine zv_step (bX2_timesWithin 2) rfl rfl trivial ?_)
      refine zv_step (bX2_timesWithin 2) rfl rfl (show vp_in (nI i) 120 from vp_in_nI (by omega) (by decide)) ?_
      iterate 2 (refine zv_step (bX2_timesWithin 2) rfl rfl trivial ?_)
      exact ih (i + 1) (by omega) (R := upd R (nI i).toNatClampNeg (Int32.ofInt 1 + a1 + a2)) (nI_1 i)
    · iterate 1 (refine zv_step (bX2_timesWithin 2) rfl rfl trivial ?_)
      refine zv_ift (by decide) ?_
      iterate 5 (refine zv_step (bX2_timesWithin 2) rfl rfl trivial ?_)
      refine zv_step (bX2_timesWithin 2) rfl rfl (show vp_in (nI i) 120 from vp_in_nI (by omega) (by decide)) ?_
      refine zv_V1 (bX2_timesWithin 2) rfl rfl rfl rfl rfl rfl rfl ⟨rfl, rfl, rfl⟩ ⟨by decide, by decide⟩ ⟨Nat.zero_le _, Nat.zero_le _⟩ (pTally1 O (updA P 13 R) Y g hu _) ?_
      rintro r _ ⟨rfl, hr⟩
      obtain ⟨a1, rfl⟩ : ∃ a, r = some (.int a) := hr.elim (fun q => ⟨_, q.2⟩) (fun q => ⟨_, q.2⟩)
      iterate 5 (refine zv_step (bX2_timesWithin 2) rfl rfl trivial ?_)
      refine zv_step (bX2_timesWithin 2) rfl rfl (show vp_in (nI i) 120 from vp_in_nI (by omega) (by decide)) ?_
      refine zv_V1 (bX2_timesWithin 2) rfl rfl rfl rfl rfl rfl rfl ⟨rfl, rfl, rfl⟩ ⟨by decide, by decide⟩ ⟨Nat.zero_le _, Nat.zero_le _⟩ (pTally1 O (updA P 13 R) Y g hu _) ?_
      rintro r _ ⟨rfl, hr⟩
      obtain ⟨a2, rfl⟩ : ∃ a, r = some (.int a) := hr.elim (fun q => ⟨_, q.2⟩) (fun q => ⟨_, q.2⟩)
      iterate 1 (refine zv_step (bX2_timesWithin 2) rfl rfl trivial ?_)
      refine zv_step (bX2_timesWithin 2) rfl rfl (show vp_in (nI i) 120 from vp_in_nI (by omega) (by decide)) ?_
      iterate 2 (refine zv_step (bX2_timesWithin 2) rfl rfl trivial ?_)
      exact ih (i + 1) (by omega) (R := upd R (nI i).toNatClampNeg (Int32.ofInt 0 + a1 + a2)) (nI_1 i)
set_option maxHeartbeats 1000000 in
set_option maxRecDepth 20000 in
theorem pTimes (O : Nat → Int32) (P : Nat → Nat → Int32) (Y : Nat → Nat → Int64) (g : Nat → zC) (hu : (O 1).toInt ≤ 120) {y : Int32} (hy : vp_in y 120) {j : Nat} (hj : j < 120) : zK 2 zX2_timesWithin [.ref 1, .int (nI j), .int y] (wX O P Y g) (fun r w' => ∃ (R' : Nat → Int32) (v : Int32), r = some (.int v) ∧ w' = wX O (updA P 13 R') Y g) := by
  refine zK_of qX2_timesWithin (by decide +kernel) rfl ?_
  iterate 2 (refine zv_step (bX2_timesWithin 2) rfl rfl trivial ?_)
  exact pTimesL O P Y g hu hy hj (j + 1) 0 (by omega) (R := P 13) rfl
set_option maxHeartbeats 1000000 in
set_option maxRecDepth 20000 in
theorem pUnlikeL (O : Nat → Int32) (P : Nat → Nat → Int32) (Y : Nat → Nat → Int64) (g : Nat → zC) (hu : (O 2).toInt ≤ 120) (n1 n2 : Int32) {n0 : Nat} : ∀ (c i : Nat), i + c = 19 → ∀ {x7 d t y x : Int32}, x7 = nI i → zV (zMo 2 zX2_firstUnlike) false n0 0 0 14 [(7, .int x7), (6, .int d), (5, .int t), (4, .int y), (3, .int x), (0, .ref 14), (1, .int n1), (2, .int n2)] [] (wX O P Y g) (fun r w' => w' = wX O P Y g ∧ ∃ v : Int32, r = some (.int v)) := by
  intro c
  induction c with
  | zero =>
    intro i hc x7 d t y x e7
    subst e7
    iterate 3 (refine zv_step (bX2_firstUnlike 2) rfl rfl trivial ?_)
    refine zv_ift (show c8 19 ≤ nI i by rw [show c8 19 = nI 19 from rfl]; exact nI_le (by omega) (by omega)) ?_
    iterate 1 (refine zv_step (bX2_firstUnlike 2) rfl rfl trivial ?_)
    exact zv_iret (bX2_firstUnlike 2) rfl (Or.inl rfl) (Nat.zero_le _) (Nat.zero_le _) ⟨rfl, _, rfl⟩
  | succ c ih =>
    intro i hc x7 d t y x e7
    subst e7
    iterate 3 (refine zv_step (bX2_firstUnlike 2) rfl rfl trivial ?_)
    refine zv_iff (show ¬ c8 19 ≤ nI i by rw [show c8 19 = nI 19 from rfl]; exact nI_ge (by omega) (by omega)) ?_
    iterate 2 (refine zv_step (bX2_firstUnlike 2) rfl rfl trivial ?_)
    refine zv_V1 (bX2_firstUnlike 2) rfl rfl rfl rfl rfl rfl rfl ⟨rfl, rfl, rfl⟩ ⟨by decide, by decide⟩ ⟨Nat.zero_le _, Nat.zero_le _⟩ (pHas14 O P Y g _) ?_
    rintro _ _ ⟨rfl, ⟨h1, rfl⟩ | ⟨h1, rfl⟩⟩
    · iterate 1 (refine zv_step (bX2_firstUnlike 2) rfl rfl trivial ?_)
      refine zv_iff (by decide) ?_
      iterate 2 (refine zv_step (bX2_firstUnlike 2) rfl rfl trivial ?_)
      refine zv_V1 (bX2_firstUnlike 2) rfl rfl rfl rfl rfl rfl rfl ⟨rfl, rfl, rfl⟩ ⟨by decide, by decide⟩ ⟨Nat.zero_le _, Nat.zero_le _⟩ (pHas14 O P Y g _) ?_
      rintro _ _ ⟨rfl, ⟨h2, rfl⟩ | ⟨h2, rfl⟩⟩
      · iterate 1 (refine zv_step (bX2_firstUnlike 2) rfl rfl trivial ?_)
        refine zv_iff (by decide) ?_
        iterate 3 (refine zv_step (bX2_firstUnlike 2) rfl rfl trivial ?_)
        refine zv_V2 (bX2_firstUnlike 2) rfl rfl rfl rfl rfl rfl rfl ⟨rfl, rfl, rfl⟩ ⟨by decide, by decide⟩ ⟨Nat.zero_le _, Nat.zero_le _⟩ (pTop14 O P Y g (vp_in_iff.mpr ⟨h1.1, Int.lt_of_lt_of_le h1.2 hu⟩) (vp_in_iff.mpr ⟨h2.1, Int.lt_of_lt_of_le h2.2 hu⟩)) ?_
        rintro _ _ ⟨rfl, ⟨h3, rfl⟩ | ⟨h3, rfl⟩⟩
        · iterate 1 (refine zv_step (bX2_firstUnlike 2) rfl rfl trivial ?_)
          refine zv_ift (by decide) ?_
          iterate 4 (refine zv_step (bX2_firstUnlike 2) rfl rfl trivial ?_)
          refine zv_step (bX2_firstUnlike 2) rfl rfl (vp_in_iff.mpr ⟨h1.1, Int.lt_of_lt_of_le h1.2 hu⟩) ?_
          refine zv_V1 (bX2_firstUnlike 2) rfl rfl rfl rfl rfl rfl rfl ⟨rfl, rfl, rfl⟩ ⟨by decide, by decide⟩ ⟨Nat.zero_le _, Nat.zero_le _⟩ (pShape14 O P Y g hu _) ?_
          rintro r _ ⟨rfl, hr⟩
          obtain ⟨a1, rfl⟩ : ∃ a, r = some (.int a) := hr.elim (fun q => ⟨_, q.2⟩) (fun q => ⟨_, q.2⟩)
          iterate 4 (refine zv_step (bX2_firstUnlike 2) rfl rfl trivial ?_)
          refine zv_step (bX2_firstUnlike 2) rfl rfl (vp_in_iff.mpr ⟨h2.1, Int.lt_of_lt_of_le h2.2 hu⟩) ?_
          refine zv_V1 (bX2_firstUnlike 2) rfl rfl rfl rfl rfl rfl rfl ⟨rfl, rfl, rfl⟩ ⟨by decide, by decide⟩ ⟨Nat.zero_le _, Nat.zero_le _⟩ (pShape14 O P Y g hu _) ?_
          rintro r _ ⟨rfl, hr⟩
          obtain ⟨a2, rfl⟩ : ∃ a, r = some (.int a) := hr.elim (fun q => ⟨_, q.2⟩) (fun q => ⟨_, q.2⟩)
          iterate 1 (refine zv_step (bX2_firstUnlike 2) rfl rfl trivial ?_)
          refine zv_ifb (fun h4 => ?_) (fun h4 => ?_)
          · iterate 5 (refine zv_step (bX2_firstUnlike 2) rfl rfl trivial ?_)
            refine zv_V2 (bX2_firstUnlike 2) rfl rfl rfl rfl rfl rfl rfl ⟨rfl, rfl, rfl⟩ ⟨by decide, by decide⟩ ⟨Nat.zero_le _, Nat.zero_le _⟩ (pPartOf14 O P Y g hu _ _) ?_
            rintro r _ ⟨rfl, hr⟩
            obtain ⟨a3, rfl⟩ : ∃ a, r = some (.int a) := hr.elim (fun q => q.2.elim (fun z => ⟨_, z.2⟩) (fun z => ⟨_, z.2⟩)) (fun q => ⟨_, q.2⟩)
            iterate 4 (refine zv_step (bX2_firstUnlike 2) rfl rfl trivial ?_)
            refine zv_V2 (bX2_firstUnlike 2) rfl rfl rfl rfl rfl rfl rfl ⟨rfl, rfl, rfl⟩ ⟨by decide, by decide⟩ ⟨Nat.zero_le _, Nat.zero_le _⟩ (pPartOf14 O P Y g hu _ _) ?_
            rintro r _ ⟨rfl, hr⟩
            obtain ⟨a4, rfl⟩ : ∃ a, r = some (.int a) := hr.elim (fun q => q.2.elim (fun z => ⟨_, z.2⟩) (fun z => ⟨_, z.2⟩)) (fun q => ⟨_, q.2⟩)
            iterate 13 (refine zv_step (bX2_firstUnlike 2) rfl rfl trivial ?_)
            refine zv_locals (l := [(7, .int (nI i + Int32.ofInt 1)), (6, .int (d * Int32.ofInt 3)), (5, .int (t + Int32.ofInt 2 * d)), (4, .int a4), (3, .int a3), (8, .int (Int32.ofInt 2)), (0, .ref 14), (1, .int n1), (2, .int n2)]) (l' := [(7, .int (nI i + Int32.ofInt 1)), (6, .int (d * Int32.ofInt 3)), (5, .int (t + Int32.ofInt 2 * d)), (4, .int a4), (3, .int a3), (0, .ref 14), (1, .int n1), (2, .int n2)]) ?_ (ih (i + 1) (by omega) (nI_1 i))
            simp
          · iterate 6 (refine zv_step (bX2_firstUnlike 2) rfl rfl trivial ?_)
            refine zv_V2 (bX2_firstUnlike 2) rfl rfl rfl rfl rfl rfl rfl ⟨rfl, rfl, rfl⟩ ⟨by decide, by decide⟩ ⟨Nat.zero_le _, Nat.zero_le _⟩ (pPartOf14 O P Y g hu _ _) ?_
            rintro r _ ⟨rfl, hr⟩
            obtain ⟨a3, rfl⟩ : ∃ a, r = some (.int a) := hr.elim (fun q => q.2.elim (fun z => ⟨_, z.2⟩) (fun z => ⟨_, z.2⟩)) (fun q => ⟨_, q.2⟩)
            iterate 4 (refine zv_step (bX2_firstUnlike 2) rfl rfl trivial ?_)
            refine zv_V2 (bX2_firstUnlike 2) rfl rfl rfl rfl rfl rfl rfl ⟨rfl, rfl, rfl⟩ ⟨by decide, by decide⟩ ⟨Nat.zero_le _, Nat.zero_le _⟩ (pPartOf14 O P Y g hu _ _) ?_
            rintro r _ ⟨rfl, hr⟩
            obtain ⟨a4, rfl⟩ : ∃ a, r = some (.int a) := hr.elim (fun q => q.2.elim (fun z => ⟨_, z.2⟩) (fun z => ⟨_, z.2⟩)) (fun q => ⟨_, q.2⟩)
            iterate 13 (refine zv_step (bX2_firstUnlike 2) rfl rfl trivial ?_)
            refine zv_locals (l := [(7, .int (nI i + Int32.ofInt 1)), (6, .int (d * Int32.ofInt 3)), (5, .int (t + Int32.ofInt 1 * d)), (4, .int a4), (3, .int a3), (8, .int (Int32.ofInt 1)), (0, .ref 14), (1, .int n1), (2, .int n2)]) (l' := [(7, .int (nI i + Int32.ofInt 1)), (6, .int (d * Int32.ofInt 3)), (5, .int (t + Int32.ofInt 1 * d)), (4, .int a4), (3, .int a3), (0, .ref 14), (1, .int n1), (2, .int n2)]) ?_ (ih (i + 1) (by omega) (nI_1 i))
            simp
        · iterate 1 (refine zv_step (bX2_firstUnlike 2) rfl rfl trivial ?_)
          refine zv_iff (by decide) ?_
          iterate 1 (refine zv_step (bX2_firstUnlike 2) rfl rfl trivial ?_)
          exact zv_iret (bX2_firstUnlike 2) rfl (Or.inl rfl) (Nat.zero_le _) (Nat.zero_le _) ⟨rfl, _, rfl⟩
      · iterate 1 (refine zv_step (bX2_firstUnlike 2) rfl rfl trivial ?_)
        refine zv_ift (by decide) ?_
        iterate 1 (refine zv_step (bX2_firstUnlike 2) rfl rfl trivial ?_)
        exact zv_iret (bX2_firstUnlike 2) rfl (Or.inl rfl) (Nat.zero_le _) (Nat.zero_le _) ⟨rfl, _, rfl⟩
    · iterate 1 (refine zv_step (bX2_firstUnlike 2) rfl rfl trivial ?_)
      refine zv_ift (by decide) ?_
      iterate 1 (refine zv_step (bX2_firstUnlike 2) rfl rfl trivial ?_)
      exact zv_iret (bX2_firstUnlike 2) rfl (Or.inl rfl) (Nat.zero_le _) (Nat.zero_le _) ⟨rfl, _, rfl⟩
set_option maxHeartbeats 1000000 in
set_option maxRecDepth 20000 in
theorem pUnlike (O : Nat → Int32) (P : Nat → Nat → Int32) (Y : Nat → Nat → Int64) (g : Nat → zC) (hu : (O 2).toInt ≤ 120) (x y : Int32) : zK 2 zX2_firstUnlike [.ref 14, .int x, .int y] (wX O P Y g) (fun r w' => w' = wX O P Y g ∧ ∃ v : Int32, r = some (.int v)) := by
  refine zK_of qX2_firstUnlike (by decide +kernel) rfl ?_
  iterate 10 (refine zv_step (bX2_firstUnlike 2) rfl rfl trivial ?_)
  exact pUnlikeL O P Y g hu x y 19 0 rfl rfl
