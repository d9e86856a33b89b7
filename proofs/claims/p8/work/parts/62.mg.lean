section
set_option maxHeartbeats 1000000 in
set_option maxRecDepth 20000 in
theorem sSameL (O : Nat → Int32) (P : Nat → Nat → Int32) (Y : Nat → Nat → Int64) (g : Nat → zC) {q : Nat} (hq : q ≤ 80) (hO : O 3 = nI q) {n0 : Nat} : ∀ (c i : Nat), i + c = q → ∀ {x2 : Int32}, x2 = nI i → zV (zMo 1 zX4_isSameAs) false n0 0 0 22 [(2, .int x2), (0, .ref 27), (1, .ref 29)] [] (wX O P Y g) (fun r w' => w' = wX O P Y g ∧ (r = some (.int 1) ∨ r = some (.int 0))) := by
  intro c
  induction c with
  | zero =>
    intro i hc x2 e2
    subst e2
    iterate 4 (refine zv_step (bX4_isSameAs 1) rfl rfl trivial ?_)
    refine zv_ift (show O 3 ≤ nI i by rw [hO]; exact nI_le (by omega) (by omega)) ?_
    iterate 1 (refine zv_step (bX4_isSameAs 1) rfl rfl trivial ?_)
    exact zv_iret (bX4_isSameAs 1) rfl (Or.inr ⟨rfl, Or.inr rfl⟩) (Nat.zero_le _) (Nat.zero_le _) ⟨rfl, Or.inl rfl⟩
  | succ c ih =>
    intro i hc x2 e2
    subst e2
    iterate 4 (refine zv_step (bX4_isSameAs 1) rfl rfl trivial ?_)
    refine zv_iff (show ¬ O 3 ≤ nI i by rw [hO]; exact nI_ge (by omega) (by omega)) ?_
    iterate 3 (refine zv_step (bX4_isSameAs 1) rfl rfl trivial ?_)
    refine zv_step (bX4_isSameAs 1) rfl rfl (show vp_in (nI i) 80 from vp_in_nI (by omega) (by decide)) ?_
    iterate 3 (refine zv_step (bX4_isSameAs 1) rfl rfl trivial ?_)
    refine zv_step (bX4_isSameAs 1) rfl rfl (show vp_in (nI i) 80 from vp_in_nI (by omega) (by decide)) ?_
    iterate 1 (refine zv_step (bX4_isSameAs 1) rfl rfl trivial ?_)
    refine zv_ifb (fun h1 => ?_) (fun h1 => ?_)
    · iterate 2 (refine zv_step (bX4_isSameAs 1) rfl rfl trivial ?_)
      exact ih (i + 1) (by omega) (nI_1 i)
    · iterate 1 (refine zv_step (bX4_isSameAs 1) rfl rfl trivial ?_)
      exact zv_iret (bX4_isSameAs 1) rfl (Or.inr ⟨rfl, Or.inl rfl⟩) (Nat.zero_le _) (Nat.zero_le _) ⟨rfl, Or.inr rfl⟩
set_option maxHeartbeats 1000000 in
set_option maxRecDepth 20000 in
theorem sSame (O : Nat → Int32) (P : Nat → Nat → Int32) (Y : Nat → Nat → Int64) (g : Nat → zC) {q : Nat} (hq : q < 2 ^ 30) (hO : O 3 = nI q) : zK 1 zX4_isSameAs [.ref 27, .ref 29] (wX O P Y g) (fun r w' => w' = wX O P Y g ∧ (r = some (.int 1) ∨ r = some (.int 0))) := by
  refine zK_of qX4_isSameAs (by decide +kernel) rfl ?_
  iterate 5 (refine zv_step (bX4_isSameAs 1) rfl rfl trivial ?_)
  refine zv_ifb (fun h0 => ?_) (fun h0 => ?_)
  · iterate 1 (refine zv_step (bX4_isSameAs 1) rfl rfl trivial ?_)
    exact zv_iret (bX4_isSameAs 1) rfl (Or.inr ⟨rfl, Or.inl rfl⟩) (Nat.zero_le _) (Nat.zero_le _) ⟨rfl, Or.inr rfl⟩
  · iterate 1 (refine zv_step (bX4_isSameAs 1) rfl rfl trivial ?_)
    refine zv_V0 (bX4_isSameAs 1) rfl rfl rfl rfl rfl rfl rfl ⟨rfl, rfl, rfl⟩ ⟨by decide, by decide⟩ ⟨Nat.zero_le _, Nat.zero_le _⟩ (sLong27 O P Y g) ?_
    rintro _ _ ⟨rfl, ⟨hh, rfl⟩ | ⟨hh, rfl⟩⟩
    · iterate 1 (refine zv_step (bX4_isSameAs 1) rfl rfl trivial ?_)
      refine zv_iff (by decide) ?_
      iterate 1 (refine zv_step (bX4_isSameAs 1) rfl rfl trivial ?_)
      exact zv_iret (bX4_isSameAs 1) rfl (Or.inr ⟨rfl, Or.inl rfl⟩) (Nat.zero_le _) (Nat.zero_le _) ⟨rfl, Or.inr rfl⟩
    · iterate 1 (refine zv_step (bX4_isSameAs 1) rfl rfl trivial ?_)
      refine zv_ift (by decide) ?_
      rw [hO, nI_toInt (by omega)] at hh
      iterate 2 (refine zv_step (bX4_isSameAs 1) rfl rfl trivial ?_)
      exact sSameL O P Y g (by omega) hO q 0 (by omega) rfl
set_option maxHeartbeats 1000000 in
set_option maxRecDepth 20000 in
theorem pUnlikeL (O : Nat → Int32) (P : Nat → Nat → Int32) (Y : Nat → Nat → Int64) (g : Nat → zC) (hu : (O 2).toInt ≤ 120) (n1 n2 : Int32) {n0 : Nat} : ∀ (c i : Nat), i + c = 19 → ∀ {x7 d t y x : Int32}, x7 = nI i → zV (zMo 2 zX2_firstUnlike) false n0 0 0 14 [(7, .int x7), (6, .int d), (5, .int t), (4, .int y), (3, .int x), (0, .ref 14), (1, .int n1), (2, .int n2)] [] (wX O P Y g) (fun r w' => w' = wX O P Y g ∧ ∃ v : Int32, r = some (.int v)) := by
  intro c
  induction c with
  | zero =>
    intro i hc x7 d t y x e7
    subst e7
    iterate 3 (refine zv_step (bX2_firstUnlike 2) rfl rfl trivial ?_)
    refine zv_ift (show c8 19 ≤ nI i by rw [show c8 19 = nI 19 from rfl]; exact nI_le (by omega) (by omega)) ?_
    iterate 1 (refine zv_step (bX2_firstUnlike 2) rfl rfl trivial ?_)
    exact zv_iret (bX2_firstUnlike 2) rfl (Or.inl rfl) (Nat.zero_le _) (Nat.zero_le _) ⟨rfl, _, rfl⟩
  | succ c ih =>
    intro i hc x7 d t y x e7
    subst e7
    iterate 3 (refine zv_step (bX2_firstUnlike 2) rfl rfl trivial ?_)
    refine zv_iff (show ¬ c8 19 ≤ nI i by rw [show c8 19 = nI 19 from rfl]; exact nI_ge (by omega) (by omega)) ?_
    iterate 2 (refine zv_step (bX2_firstUnlike 2) rfl rfl trivial ?_)
    refine zv_V1 (bX2_firstUnlike 2) rfl rfl rfl rfl rfl rfl rfl ⟨rfl, rfl, rfl⟩ ⟨by decide, by decide⟩ ⟨Nat.zero_le _, Nat.zero_le _⟩ (pHas14 O P Y g _) ?_
    rintro _ _ ⟨rfl, ⟨h1, rfl⟩ | ⟨h1, rfl⟩⟩
    · iterate 1 (refine zv_step (bX2_firstUnlike 2) rfl rfl trivial ?_)
      refine zv_iff (by decide) ?_
      iterate 2 (refine zv_step (bX2_firstUnlike 2) rfl rfl trivial ?_)
      refine zv_V1 (bX2_firstUnlike 2) rfl rfl rfl rfl rfl rfl rfl ⟨rfl, rfl, rfl⟩ ⟨by decide, by decide⟩ ⟨Nat.zero_le _, Nat.zero_le _⟩ (pHas14 O P Y g _) ?_
      rintro _ _ ⟨rfl, ⟨h2, rfl⟩ | ⟨h2, rfl⟩⟩
      · iterate 1 (refine zv_step (bX2_firstUnlike 2) rfl rfl trivial ?_)
        refine zv_iff (by decide) ?_
        iterate 3 (refine zv_step (bX2_firstUnlike 2) rfl rfl trivial ?_)
        refine zv_V2 (bX2_firstUnlike 2) rfl rfl rfl rfl rfl rfl rfl ⟨rfl, rfl, rfl⟩ ⟨by decide, by decide⟩ ⟨Nat.zero_le _, Nat.zero_le _⟩ (pTop14 O P Y g (vp_in_iff.mpr ⟨h1.1, Int.lt_of_lt_of_le h1.2 hu⟩) (vp_in_iff.mpr ⟨h2.1, Int.lt_of_lt_of_le h2.2 hu⟩)) ?_
        rintro _ _ ⟨rfl, ⟨h3, rfl⟩ | ⟨h3, rfl⟩⟩
        · iterate 1 (refine zv_step (bX2_firstUnlike 2) rfl rfl trivial ?_)
          refine zv_ift (by decide) ?_
          iterate 4 (refine zv_step (bX2_firstUnlike 2) rfl rfl trivial ?_)
          refine zv_step (bX2_firstUnlike 2) rfl rfl (vp_in_iff.mpr ⟨h1.1, Int.lt_of_lt_of_le h1.2 hu⟩) ?_
          refine zv_V1 (bX2_firstUnlike 2) rfl rfl rfl rfl rfl rfl rfl ⟨rfl, rfl, rfl⟩ ⟨by decide, by decide⟩ ⟨Nat.zero_le _, Nat.zero_le _⟩ (pShape14 O P Y g hu _) ?_
          rintro r _ ⟨rfl, hr⟩
          obtain ⟨a1, rfl⟩ : ∃ a, r = some (.int a) := hr.elim (fun q => ⟨_, q.2⟩) (fun q => ⟨_, q.2⟩)
          iterate 4 (refine zv_step (bX2_firstUnlike 2) rfl rfl trivial ?_)
          refine zv_step (bX2_firstUnlike 2) rfl rfl (vp_in_iff.mpr ⟨h2.1, Int.lt_of_lt_of_le h2.2 hu⟩) ?_
          refine zv_V1 (bX2_firstUnlike 2) rfl rfl rfl rfl rfl rfl rfl ⟨rfl, rfl, rfl⟩ ⟨by decide, by decide⟩ ⟨Nat.zero_le _, Nat.zero_le _⟩ (pShape14 O P Y g hu _) ?_
          rintro r _ ⟨rfl, hr⟩
          obtain ⟨a2, rfl⟩ : ∃ a, r = some (.int a) := hr.elim (fun q => ⟨_, q.2⟩) (fun q => ⟨_, q.2⟩)
          iterate 1 (refine zv_step (bX2_firstUnlike 2) rfl rfl trivial ?_)
          refine zv_ifb (fun h4 => ?_) (fun h4 => ?_)
          · iterate 5 (refine zv_step (bX2_firstUnlike 2) rfl rfl trivial ?_)
            refine zv_V2 (bX2_firstUnlike 2) rfl rfl rfl rfl rfl rfl rfl ⟨rfl, rfl, rfl⟩ ⟨by decide, by decide⟩ ⟨Nat.zero_le _, Nat.zero_le _⟩ (pPartOf14 O P Y g hu _ _) ?_
            rintro r _ ⟨rfl, hr⟩
            obtain ⟨a3, rfl⟩ : ∃ a, r = some (.int a) := hr.elim (fun q => q.2.elim (fun z => ⟨_, z.2⟩) (fun z => ⟨_, z.2⟩)) (fun q => ⟨_, q.2⟩)
            iterate 4 (refine zv_step (bX2_firstUnlike 2) rfl rfl trivial ?_)
            refine zv_V2 (bX2_firstUnlike 2) rfl rfl rfl rfl rfl rfl rfl ⟨rfl, rfl, rfl⟩ ⟨by decide, by decide⟩ ⟨Nat.zero_le _, Nat.zero_le _⟩ (pPartOf14 O P Y g hu _ _) ?_
            rintro r _ ⟨rfl, hr⟩
            obtain ⟨a4, rfl⟩ : ∃ a, r = some (.int a) := hr.elim (fun q => q.2.elim (fun z => ⟨_, z.2⟩) (fun z => ⟨_, z.2⟩)) (fun q => ⟨_, q.2⟩)
            iterate 13 (refine zv_step (bX2_firstUnlike 2) rfl rfl trivial ?_)
            refine zv_locals (l := [(7, .int (nI i + Int32.ofInt 1)), (6, .int (d * Int32.ofInt 3)), (5, .int (t + Int32.ofInt 2 * d)), (4, .int a4), (3, .int a3), (8, .int (Int32.ofInt 2)), (0, .ref 14), (1, .int n1), (2, .int n2)]) (l' := [(7, .int (nI i + Int32.ofInt 1)), (6, .int (d * Int32.ofInt 3)), (5, .int (t + Int32.ofInt 2 * d)), (4, .int a4), (3, .int a3), (0, .ref 14), (1, .int n1), (2, .int n2)]) ?_ (ih (i + 1) (by omega) (nI_1 i))
            simp
          · iterate 6 (refine zv_step (bX2_firstUnlike 2) rfl rfl trivial ?_)
            refine zv_V2 (bX2_firstUnlike 2) rfl rfl rfl rfl rfl rfl rfl ⟨rfl, rfl, rfl⟩ ⟨by decide, by decide⟩ ⟨Nat.zero_le _, Nat.zero_le _⟩ (pPartOf14 O P Y g hu _ _) ?_
            rintro r _ ⟨rfl, hr⟩
            obtain ⟨a3, rfl⟩ : ∃ a, r = some (.int a) := hr.elim (fun q => q.2.elim (fun z => ⟨_, z.2⟩) (fun z => ⟨_, z.2⟩)) (fun q => ⟨_, q.2⟩)
            iterate 4 (refine zv_step (bX2_firstUnlike 2) rfl rfl trivial ?_)
            refine zv_V2 (bX2_firstUnlike 2) rfl rfl rfl rfl rfl rfl rfl ⟨rfl, rfl, rfl⟩ ⟨by decide, by decide⟩ ⟨Nat.zero_le _, Nat.zero_le _⟩ (pPartOf14 O P Y g hu _ _) ?_
            rintro r _ ⟨rfl, hr⟩
            obtain ⟨a4, rfl⟩ : ∃ a, r = some (.int a) := hr.elim (fun q => q.2.elim (fun z => ⟨_, z.2⟩) (fun z => ⟨_, z.2⟩)) (fun q => ⟨_, q.2⟩)
            iterate 13 (refine zv_step (bX2_firstUnlike 2) rfl rfl trivial ?_)
            refine zv_locals (l := [(7, .int (nI i + Int32.ofInt 1)), (6, .int (d * Int32.ofInt 3)), (5, .int (t + Int32.ofInt 1 * d)), (4, .int a4), (3, .int a3), (8, .int (Int32.ofInt 1)), (0, .ref 14), (1, .int n1), (2, .int n2)]) (l' := [(7, .int (nI i + Int32.ofInt 1)), (6, .int (d * Int32.ofInt 3)), (5, .int (t + Int32.ofInt 1 * d)), (4, .int a4), (3, .int a3), (0, .ref 14), (1, .int n1), (2, .int n2)]) ?_ (ih (i + 1) (by omega) (nI_1 i))
            simp
        · iterate 1 (refine zv_step (bX2_firstUnlike 2) rfl rfl trivial ?_)
          refine zv_iff (by decide) ?_
          iterate 1 (refine zv_step (bX2_firstUnlike 2) rfl rfl trivial ?_)
          exact zv_iret (bX2_firstUnlike 2) rfl (Or.inl rfl) (Nat.zero_le _) (Nat.zero_le _) ⟨rfl, _, rfl⟩
      · iterate 1 (refine zv_step (bX2_firstUnlike 2) rfl rfl trivial ?_)
        refine zv_ift (by decide) ?_
        iterate 1 (refine zv_step (bX2_firstUnlike 2) rfl rfl trivial ?_)
        exact zv_iret (bX2_firstUnlike 2) rfl (Or.inl rfl) (Nat.zero_le _) (Nat.zero_le _) ⟨rfl, _, rfl⟩
    · iterate 1 (refine zv_step (bX2_firstUnlike 2) rfl rfl trivial ?_)
      refine zv_ift (by decide) ?_
      iterate 1 (refine zv_step (bX2_firstUnlike 2) rfl rfl trivial ?_)
      exact zv_iret (bX2_firstUnlike 2) rfl (Or.inl rfl) (Nat.zero_le _) (Nat.zero_le _) ⟨rfl, _, rfl⟩
set_option maxHeartbeats 1000000 in
set_option maxRecDepth 20000 in
theorem pUnlike (O : Nat → Int32) (P : Nat → Nat → Int32) (Y : Nat → Nat → Int64) (g : Nat → zC) (hu : (O 2).toInt ≤ 120) (x y : Int32) : zK 2 zX2_firstUnlike [.ref 14, .int x, .int y] (wX O P Y g) (fun r w' => w' = wX O P Y g ∧ ∃ v : Int32, r = some (.int v)) := by
  refine zK_of qX2_firstUnlike (by decide +kernel) rfl ?_
  iterate 10 (refine zv_step (bX2_firstUnlike 2) rfl rfl trivial ?_)
  exact pUnlikeL O P Y g hu x y 19 0 rfl rfl
end
section
set_option maxRecDepth 20000 in
theorem wS (O : Nat → Int32) (P : Nat → Nat → Int32) (Y : Nat → Nat → Int64) (g : Nat → zC) : ∀ {s : Nat}, s < 8 → (wX O P Y g)[59 + 2 * s]? = some (zO 2 [.int (O (20 + 10 * s)), .int (O (21 + 10 * s)), .int (O (22 + 10 * s)), .int (O (23 + 10 * s)), .ref (60 + 2 * s), .int (O (24 + 10 * s))]) := by
  intro s hs
  match s, hs with
  | 0, _ => rfl
  | 1, _ => rfl
  | 2, _ => rfl
  | 3, _ => rfl
  | 4, _ => rfl
  | 5, _ => rfl
  | 6, _ => rfl
  | 7, _ => rfl
  | n + 8, h => exact absurd h (by omega)
set_option maxRecDepth 20000 in
theorem wSr (O : Nat → Int32) (P : Nat → Nat → Int32) (Y : Nat → Nat → Int64) (g : Nat → zC) : ∀ {s : Nat}, s < 8 → (wX O P Y g)[60 + 2 * s]? = some (zI 0 60 (P (60 + 2 * s))) := by
  intro s hs
  match s, hs with
  | 0, _ => rfl
  | 1, _ => rfl
  | 2, _ => rfl
  | 3, _ => rfl
  | 4, _ => rfl
  | 5, _ => rfl
  | 6, _ => rfl
  | 7, _ => rfl
  | n + 8, h => exact absurd h (by omega)
set_option maxRecDepth 20000 in
theorem wSset0 (O : Nat → Int32) (P : Nat → Nat → Int32) (Y : Nat → Nat → Int64) (g : Nat → zC) (x : Int32) : ∀ {s : Nat}, s < 8 → (wX O P Y g).set (59 + 2 * s) (zO 2 [.int x, .int (O (21 + 10 * s)), .int (O (22 + 10 * s)), .int (O (23 + 10 * s)), .ref (60 + 2 * s), .int (O (24 + 10 * s))]) = wX (upd O (20 + 10 * s) x) P Y g := by
  intro s hs
  match s, hs with
  | 0, _ => rfl
  | 1, _ => rfl
  | 2, _ => rfl
  | 3, _ => rfl
  | 4, _ => rfl
  | 5, _ => rfl
  | 6, _ => rfl
  | 7, _ => rfl
  | n + 8, h => exact absurd h (by omega)
set_option maxRecDepth 20000 in
theorem wSset1 (O : Nat → Int32) (P : Nat → Nat → Int32) (Y : Nat → Nat → Int64) (g : Nat → zC) (x : Int32) : ∀ {s : Nat}, s < 8 → (wX O P Y g).set (59 + 2 * s) (zO 2 [.int (O (20 + 10 * s)), .int x, .int (O (22 + 10 * s)), .int (O (23 + 10 * s)), .ref (60 + 2 * s), .int (O (24 + 10 * s))]) = wX (upd O (21 + 10 * s) x) P Y g := by
  intro s hs
  match s, hs with
  | 0, _ => rfl
  | 1, _ => rfl
  | 2, _ => rfl
  | 3, _ => rfl
  | 4, _ => rfl
  | 5, _ => rfl
  | 6, _ => rfl
  | 7, _ => rfl
  | n + 8, h => exact absurd h (by omega)
set_option maxRecDepth 20000 in
theorem wSset2 (O : Nat → Int32) (P : Nat → Nat → Int32) (Y : Nat → Nat → Int64) (g : Nat → zC) (x : Int32) : ∀ {s : Nat}, s < 8 → (wX O P Y g).set (59 + 2 * s) (zO 2 [.int (O (20 + 10 * s)), .int (O (21 + 10 * s)), .int x, .int (O (23 + 10 * s)), .ref (60 + 2 * s), .int (O (24 + 10 * s))]) = wX (upd O (22 + 10 * s) x) P Y g := by
  intro s hs
  match s, hs with
  | 0, _ => rfl
  | 1, _ => rfl
  | 2, _ => rfl
  | 3, _ => rfl
  | 4, _ => rfl
  | 5, _ => rfl
  | 6, _ => rfl
  | 7, _ => rfl
  | n + 8, h => exact absurd h (by omega)
set_option maxRecDepth 20000 in
theorem wSset3 (O : Nat → Int32) (P : Nat → Nat → Int32) (Y : Nat → Nat → Int64) (g : Nat → zC) (x : Int32) : ∀ {s : Nat}, s < 8 → (wX O P Y g).set (59 + 2 * s) (zO 2 [.int (O (20 + 10 * s)), .int (O (21 + 10 * s)), .int (O (22 + 10 * s)), .int x, .ref (60 + 2 * s), .int (O (24 + 10 * s))]) = wX (upd O (23 + 10 * s) x) P Y g := by
  intro s hs
  match s, hs with
  | 0, _ => rfl
  | 1, _ => rfl
  | 2, _ => rfl
  | 3, _ => rfl
  | 4, _ => rfl
  | 5, _ => rfl
  | 6, _ => rfl
  | 7, _ => rfl
  | n + 8, h => exact absurd h (by omega)
set_option maxRecDepth 20000 in
theorem wSset5 (O : Nat → Int32) (P : Nat → Nat → Int32) (Y : Nat → Nat → Int64) (g : Nat → zC) (x : Int32) : ∀ {s : Nat}, s < 8 → (wX O P Y g).set (59 + 2 * s) (zO 2 [.int (O (20 + 10 * s)), .int (O (21 + 10 * s)), .int (O (22 + 10 * s)), .int (O (23 + 10 * s)), .ref (60 + 2 * s), .int x]) = wX (upd O (24 + 10 * s) x) P Y g := by
  intro s hs
  match s, hs with
  | 0, _ => rfl
  | 1, _ => rfl
  | 2, _ => rfl
  | 3, _ => rfl
  | 4, _ => rfl
  | 5, _ => rfl
  | 6, _ => rfl
  | 7, _ => rfl
  | n + 8, h => exact absurd h (by omega)
set_option maxRecDepth 20000 in
theorem wSrset (O : Nat → Int32) (P : Nat → Nat → Int32) (Y : Nat → Nat → Int64) (g : Nat → zC) (h : Nat → Int32) : ∀ {s : Nat}, s < 8 → (wX O P Y g).set (60 + 2 * s) (zI 0 60 h) = wX O (updA P (60 + 2 * s) h) Y g := by
  intro s hs
  match s, hs with
  | 0, _ => rfl
  | 1, _ => rfl
  | 2, _ => rfl
  | 3, _ => rfl
  | 4, _ => rfl
  | 5, _ => rfl
  | 6, _ => rfl
  | 7, _ => rfl
  | n + 8, h => exact absurd h (by omega)
set_option maxHeartbeats 1000000 in
set_option maxRecDepth 20000 in
theorem hDrop (O : Nat → Int32) (P : Nat → Nat → Int32) (Y : Nat → Nat → Int64) (g : Nat → zC) {s : Nat} (hs : s < 8) : zK 0 zX3_drop [.ref (59 + 2 * s)] (wX O P Y g) (fun r w' => r = none ∧ w' = wX (upd O (20 + 10 * s) (Int32.ofInt 0)) P Y g) := by
  refine zK_of qX3_drop (by decide +kernel) rfl ?_
  iterate 2 (refine zv_step (bX3_drop 0) rfl rfl trivial ?_)
  refine zv_putf (bX3_drop 0) rfl (wS O P Y g hs) rfl rfl ?_
  refine zv_world (wSset0 O P Y g (Int32.ofInt 0) hs) ?_
  exact zv_ret (bX3_drop 0) rfl rfl (Nat.zero_le _) (Nat.zero_le _) ⟨rfl, rfl⟩
set_option maxHeartbeats 1000000 in
set_option maxRecDepth 20000 in
theorem hHoldNode (O : Nat → Int32) (P : Nat → Nat → Int32) (Y : Nat → Nat → Int64) (g : Nat → zC) {s : Nat} (hs : s < 8) (k v z : Int32) : zK 0 zX3_holdNode [.ref (59 + 2 * s), .int k, .int v, .int z] (wX O P Y g) (fun r w' => r = none ∧ w' = wX (upd (upd (upd (upd O (20 + 10 * s) (Int32.ofInt 1)) (22 + 10 * s) k) (21 + 10 * s) v) (23 + 10 * s) z) P Y g) := by
  refine zK_of qX3_holdNode (by decide +kernel) rfl ?_
  iterate 2 (refine zv_step (bX3_holdNode 0) rfl rfl trivial ?_)
  refine zv_putf (bX3_holdNode 0) rfl (wS O P Y g hs) rfl rfl ?_
  refine zv_world (wSset0 O P Y g (Int32.ofInt 1) hs) ?_
  iterate 2 (refine zv_step (bX3_holdNode 0) rfl rfl trivial ?_)
  refine zv_putf (bX3_holdNode 0) rfl (wS (upd O (20 + 10 * s) (Int32.ofInt 1)) P Y g hs) rfl rfl ?_
  refine zv_world (wSset2 (upd O (20 + 10 * s) (Int32.ofInt 1)) P Y g k hs) ?_
  iterate 2 (refine zv_step (bX3_holdNode 0) rfl rfl trivial ?_)
  refine zv_putf (bX3_holdNode 0) rfl (wS (upd (upd O (20 + 10 * s) (Int32.ofInt 1)) (22 + 10 * s) k) P Y g hs) rfl rfl ?_
  refine zv_world (wSset1 (upd (upd O (20 + 10 * s) (Int32.ofInt 1)) (22 + 10 * s) k) P Y g v hs) ?_
  iterate 2 (refine zv_step (bX3_holdNode 0) rfl rfl trivial ?_)
  refine zv_putf (bX3_holdNode 0) rfl (wS (upd (upd (upd O (20 + 10 * s) (Int32.ofInt 1)) (22 + 10 * s) k) (21 + 10 * s) v) P Y g hs) rfl rfl ?_
  refine zv_world (wSset3 (upd (upd (upd O (20 + 10 * s) (Int32.ofInt 1)) (22 + 10 * s) k) (21 + 10 * s) v) P Y g z hs) ?_
  exact zv_ret (bX3_holdNode 0) rfl rfl (Nat.zero_le _) (Nat.zero_le _) ⟨rfl, rfl⟩
set_option maxHeartbeats 1000000 in
set_option maxRecDepth 20000 in
theorem hNouL (O : Nat → Int32) (P0 : Nat → Nat → Int32) (Y : Nat → Nat → Int64) (g : Nat → zC) {s : Nat} (hs : s < 8) (a b : Int32) {n0 : Nat} : ∀ (c i : Nat), i + c = 60 → ∀ {P : Nat → Nat → Int32}, (∀ j, j ≠ 60 + 2 * s → P j = P0 j) → ∀ {x3 : Int32}, x3 = nI i → zV (zMo 0 zX3_holdNoughts) false n0 0 0 12 [(3, .int x3), (0, .ref (59 + 2 * s)), (1, .int a), (2, .int b)] [] (wX O P Y g) (fun r w' => r = none ∧ ∃ P' : Nat → Nat → Int32, w' = wX O P' Y g ∧ ∀ j, j ≠ 60 + 2 * s → P' j = P0 j) := by
  intro c
  induction c with
  | zero =>
    intro i hc P hP x3 e3
    subst e3
    iterate 3 (refine zv_step (bX3_holdNoughts 0) rfl rfl trivial ?_)
    refine zv_ift (show c8 60 ≤ nI i by rw [show c8 60 = nI 60 from rfl]; exact nI_le (by omega) (by omega)) ?_
    exact zv_ret (bX3_holdNoughts 0) rfl rfl (Nat.zero_le _) (Nat.zero_le _) ⟨rfl, P, rfl, hP⟩
  | succ c ih =>
    intro i hc P hP x3 e3
    subst e3
    iterate 3 (refine zv_step (bX3_holdNoughts 0) rfl rfl trivial ?_)
    refine zv_iff (show ¬ c8 60 ≤ nI i by rw [show c8 60 = nI 60 from rfl]; exact nI_ge (by omega) (by omega)) ?_
    iterate 1 (refine zv_step (bX3_holdNoughts 0) rfl rfl trivial ?_)
    refine zv_getf (bX3_holdNoughts 0) rfl (wS O P Y g hs) rfl ?_
    iterate 2 (refine zv_step (bX3_holdNoughts 0) rfl rfl trivial ?_)
    refine zv_iast (bX3_holdNoughts 0) rfl (wSr O P Y g hs) (show vp_in (nI i) 60 from vp_in_nI (by omega) (by decide)) ?_
    refine zv_world (wSrset O P Y g _ hs) ?_
    iterate 2 (refine zv_step (bX3_holdNoughts 0) rfl rfl trivial ?_)
    exact ih (i + 1) (by omega) (fun j hj => (updA_ne _ _ hj).trans (hP j hj)) (nI_1 i)
set_option maxHeartbeats 1000000 in
set_option maxRecDepth 20000 in
theorem hNoughts (O : Nat → Int32) (P : Nat → Nat → Int32) (Y : Nat → Nat → Int64) (g : Nat → zC) {s : Nat} (hs : s < 8) (a b : Int32) : zK 0 zX3_holdNoughts [.ref (59 + 2 * s), .int a, .int b] (wX O P Y g) (fun r w' => r = none ∧ ∃ P' : Nat → Nat → Int32, w' = wX (upd (upd O (20 + 10 * s) a) (24 + 10 * s) b) P' Y g ∧ ∀ j, j ≠ 60 + 2 * s → P' j = P j) := by
  refine zK_of qX3_holdNoughts (by decide +kernel) rfl ?_
  iterate 2 (refine zv_step (bX3_holdNoughts 0) rfl rfl trivial ?_)
  refine zv_putf (bX3_holdNoughts 0) rfl (wS O P Y g hs) rfl rfl ?_
  refine zv_world (wSset0 O P Y g a hs) ?_
  iterate 2 (refine zv_step (bX3_holdNoughts 0) rfl rfl trivial ?_)
  refine zv_putf (bX3_holdNoughts 0) rfl (wS (upd O (20 + 10 * s) a) P Y g hs) rfl rfl ?_
  refine zv_world (wSset5 (upd O (20 + 10 * s) a) P Y g b hs) ?_
  iterate 2 (refine zv_step (bX3_holdNoughts 0) rfl rfl trivial ?_)
  exact hNouL (upd (upd O (20 + 10 * s) a) (24 + 10 * s) b) P Y g hs a b 60 0 rfl (fun _ _ => rfl) rfl
set_option maxHeartbeats 1000000 in
set_option maxRecDepth 20000 in
theorem hRowL (O : Nat → Int32) (P0 : Nat → Nat → Int32) (Y : Nat → Nat → Int64) (g : Nat → zC) {s : Nat} (hs : s < 8) (a : Int32) {n : Nat} (hn : n ≤ 20) {n0 : Nat} : ∀ (c i : Nat), i + c = n → ∀ {P : Nat → Nat → Int32}, (∀ j, j ≠ 60 + 2 * s → P j = P0 j) → ∀ {x4 : Int32}, x4 = nI i → zV (zMo 0 zX3_holdRow) false n0 0 0 13 [(4, .int x4), (0, .ref (59 + 2 * s)), (1, .int a), (2, .ref 32), (3, .int (nI n))] [] (wX O P Y g) (fun r w' => r = none ∧ ∃ P' : Nat → Nat → Int32, w' = wX O P' Y g ∧ ∀ j, j ≠ 60 + 2 * s → P' j = P0 j) := by
  intro c
  induction c with
  | zero =>
    intro i hc P hP x3 e3
    subst e3
    iterate 3 (refine zv_step (bX3_holdRow 0) rfl rfl trivial ?_)
    refine zv_ift (nI_le (by omega) (by omega)) ?_
    exact zv_ret (bX3_holdRow 0) rfl rfl (Nat.zero_le _) (Nat.zero_le _) ⟨rfl, P, rfl, hP⟩
  | succ c ih =>
    intro i hc P hP x3 e3
    subst e3
    iterate 3 (refine zv_step (bX3_holdRow 0) rfl rfl trivial ?_)
    refine zv_iff (nI_ge (by omega) (by omega)) ?_
    iterate 3 (refine zv_step (bX3_holdRow 0) rfl rfl trivial ?_)
    refine zv_iff (show ¬ c8 60 ≤ nI i by rw [show c8 60 = nI 60 from rfl]; exact nI_ge (by omega) (by omega)) ?_
    iterate 4 (refine zv_step (bX3_holdRow 0) rfl rfl trivial ?_)
    refine zv_iff (show ¬ Int32.ofNat 20 ≤ nI i by rw [show Int32.ofNat 20 = nI 20 from rfl]; exact nI_ge (by omega) (by omega)) ?_
    iterate 1 (refine zv_step (bX3_holdRow 0) rfl rfl trivial ?_)
    refine zv_getf (bX3_holdRow 0) rfl (wS O P Y g hs) rfl ?_
    iterate 3 (refine zv_step (bX3_holdRow 0) rfl rfl trivial ?_)
    refine zv_step (bX3_holdRow 0) rfl rfl (show vp_in (nI i) 20 from vp_in_nI (by omega) (by decide)) ?_
    refine zv_iast (bX3_holdRow 0) rfl (wSr O P Y g hs) (show vp_in (nI i) 60 from vp_in_nI (by omega) (by decide)) ?_
    refine zv_world (wSrset O P Y g _ hs) ?_
    iterate 2 (refine zv_step (bX3_holdRow 0) rfl rfl trivial ?_)
    exact ih (i + 1) (by omega) (fun j hj => (updA_ne _ _ hj).trans (hP j hj)) (nI_1 i)
set_option maxHeartbeats 1000000 in
set_option maxRecDepth 20000 in
theorem hHoldRow (O : Nat → Int32) (P : Nat → Nat → Int32) (Y : Nat → Nat → Int64) (g : Nat → zC) {s : Nat} (hs : s < 8) (a : Int32) {n : Nat} (hn : n ≤ 20) : zK 0 zX3_holdRow [.ref (59 + 2 * s), .int a, .ref 32, .int (nI n)] (wX O P Y g) (fun r w' => r = none ∧ ∃ P' : Nat → Nat → Int32, w' = wX (upd (upd O (20 + 10 * s) a) (24 + 10 * s) (nI n)) P' Y g ∧ ∀ j, j ≠ 60 + 2 * s → P' j = P j) := by
  refine zK_of qX3_holdRow (by decide +kernel) rfl ?_
  iterate 2 (refine zv_step (bX3_holdRow 0) rfl rfl trivial ?_)
  refine zv_putf (bX3_holdRow 0) rfl (wS O P Y g hs) rfl rfl ?_
  refine zv_world (wSset0 O P Y g a hs) ?_
  iterate 2 (refine zv_step (bX3_holdRow 0) rfl rfl trivial ?_)
  refine zv_putf (bX3_holdRow 0) rfl (wS (upd O (20 + 10 * s) a) P Y g hs) rfl rfl ?_
  refine zv_world (wSset5 (upd O (20 + 10 * s) a) P Y g (nI n) hs) ?_
  iterate 2 (refine zv_step (bX3_holdRow 0) rfl rfl trivial ?_)
  exact hRowL (upd (upd O (20 + 10 * s) a) (24 + 10 * s) (nI n)) P Y g hs a hn n 0 (by omega) (fun _ _ => rfl) rfl
set_option maxHeartbeats 1000000 in
set_option maxRecDepth 20000 in
theorem hHasRow (O : Nat → Int32) (P : Nat → Nat → Int32) (Y : Nat → Nat → Int64) (g : Nat → zC) {s : Nat} (hs : s < 8) : zK 0 zX3_hasRow [.ref (59 + 2 * s)] (wX O P Y g) (fun r w' => w' = wX O P Y g ∧ (((O (20 + 10 * s) = Int32.ofInt 3 ∨ O (20 + 10 * s) = Int32.ofInt 4) ∧ r = some (.int 1)) ∨ (¬ (O (20 + 10 * s) = Int32.ofInt 3 ∨ O (20 + 10 * s) = Int32.ofInt 4) ∧ r = some (.int 0)))) := by
  refine zK_of qX3_hasRow (by decide +kernel) rfl ?_
  iterate 1 (refine zv_step (bX3_hasRow 0) rfl rfl trivial ?_)
  refine zv_getf (bX3_hasRow 0) rfl (wS O P Y g hs) rfl ?_
  iterate 2 (refine zv_step (bX3_hasRow 0) rfl rfl trivial ?_)
  refine zv_ifb (fun h1 => ?_) (fun h1 => ?_)
  · iterate 2 (refine zv_step (bX3_hasRow 0) rfl rfl trivial ?_)
    exact zv_iret (bX3_hasRow 0) rfl (Or.inr ⟨rfl, Or.inr rfl⟩) (Nat.zero_le _) (Nat.zero_le _) ⟨rfl, Or.inl ⟨Or.inl h1, rfl⟩⟩
  · iterate 1 (refine zv_step (bX3_hasRow 0) rfl rfl trivial ?_)
    refine zv_getf (bX3_hasRow 0) rfl (wS O P Y g hs) rfl ?_
    iterate 2 (refine zv_step (bX3_hasRow 0) rfl rfl trivial ?_)
    refine zv_ifb (fun h2 => ?_) (fun h2 => ?_)
    · iterate 1 (refine zv_step (bX3_hasRow 0) rfl rfl trivial ?_)
      exact zv_iret (bX3_hasRow 0) rfl (Or.inr ⟨rfl, Or.inl rfl⟩) (Nat.zero_le _) (Nat.zero_le _) ⟨rfl, Or.inr ⟨fun q => q.elim h1 h2, rfl⟩⟩
    · iterate 2 (refine zv_step (bX3_hasRow 0) rfl rfl trivial ?_)
      exact zv_iret (bX3_hasRow 0) rfl (Or.inr ⟨rfl, Or.inr rfl⟩) (Nat.zero_le _) (Nat.zero_le _) ⟨rfl, Or.inl ⟨Or.inr (Decidable.not_not.mp h2), rfl⟩⟩
set_option maxHeartbeats 1000000 in
set_option maxRecDepth 20000 in
theorem hHasSpan (O : Nat → Int32) (P : Nat → Nat → Int32) (Y : Nat → Nat → Int64) (g : Nat → zC) {s : Nat} (hs : s < 8) (x y : Int32) : zK 0 zX3_hasSpan [.ref (59 + 2 * s), .int x, .int y] (wX O P Y g) (fun r w' => w' = wX O P Y g ∧ (((0 ≤ x ∧ 0 ≤ y ∧ x ≤ O (24 + 10 * s) - y) ∧ r = some (.int 1)) ∨ (¬ (0 ≤ x ∧ 0 ≤ y ∧ x ≤ O (24 + 10 * s) - y) ∧ r = some (.int 0)))) := by
  refine zK_of qX3_hasSpan (by decide +kernel) rfl ?_
  iterate 2 (refine zv_step (bX3_hasSpan 0) rfl rfl trivial ?_)
  refine zv_ifb (fun h1 => ?_) (fun h1 => ?_)
  · iterate 1 (refine zv_step (bX3_hasSpan 0) rfl rfl trivial ?_)
    exact zv_iret (bX3_hasSpan 0) rfl (Or.inr ⟨rfl, Or.inl rfl⟩) (Nat.zero_le _) (Nat.zero_le _) ⟨rfl, Or.inr ⟨fun q => absurd h1 (Int32.not_lt.mpr q.1), rfl⟩⟩
  · iterate 2 (refine zv_step (bX3_hasSpan 0) rfl rfl trivial ?_)
    refine zv_ifb (fun h2 => ?_) (fun h2 => ?_)
    · iterate 1 (refine zv_step (bX3_hasSpan 0) rfl rfl trivial ?_)
      exact zv_iret (bX3_hasSpan 0) rfl (Or.inr ⟨rfl, Or.inl rfl⟩) (Nat.zero_le _) (Nat.zero_le _) ⟨rfl, Or.inr ⟨fun q => absurd h2 (Int32.not_lt.mpr q.2.1), rfl⟩⟩
    · iterate 2 (refine zv_step (bX3_hasSpan 0) rfl rfl trivial ?_)
      refine zv_getf (bX3_hasSpan 0) rfl (wS O P Y g hs) rfl ?_
      iterate 3 (refine zv_step (bX3_hasSpan 0) rfl rfl trivial ?_)
      refine zv_ifb (fun h3 => ?_) (fun h3 => ?_)
      · iterate 1 (refine zv_step (bX3_hasSpan 0) rfl rfl trivial ?_)
        exact zv_iret (bX3_hasSpan 0) rfl (Or.inr ⟨rfl, Or.inl rfl⟩) (Nat.zero_le _) (Nat.zero_le _) ⟨rfl, Or.inr ⟨fun q => absurd h3 (Int32.not_lt.mpr q.2.2), rfl⟩⟩
      · iterate 2 (refine zv_step (bX3_hasSpan 0) rfl rfl trivial ?_)
        exact zv_iret (bX3_hasSpan 0) rfl (Or.inr ⟨rfl, Or.inr rfl⟩) (Nat.zero_le _) (Nat.zero_le _) ⟨rfl, Or.inl ⟨⟨Int32.not_lt.mp h1, Int32.not_lt.mp h2, Int32.not_lt.mp h3⟩, rfl⟩⟩
end
section
def wbW (x i on : Int32) : Int32 := if on = 0 then x &&& ((Int32.ofInt 1 <<< (i &&& 31)) ^^^ Int32.ofInt (-1)) else x ||| (Int32.ofInt 1 <<< (i &&& 31))
set_option maxHeartbeats 1000000 in
set_option maxRecDepth 20000 in
theorem pWithBit (w : zW) (x i on : Int32) : zK 0 zX1_withBit [.int x, .int i, .int on] w (fun r w' => w' = w ∧ r = some (.int (wbW x i on))) := by
  refine zK_of qX1_withBit (by decide +kernel) rfl ?_
  iterate 2 (refine zv_step (bX1_withBit 0) rfl rfl trivial ?_)
  refine zv_ifb (fun hc => ?_) (fun hc => ?_)
  · iterate 7 (refine zv_step (bX1_withBit 0) rfl rfl trivial ?_)
    exact zv_iret (bX1_withBit 0) rfl (Or.inl rfl) (Nat.zero_le _) (Nat.zero_le _) ⟨rfl, by unfold wbW; rw [if_pos hc]⟩
  · iterate 6 (refine zv_step (bX1_withBit 0) rfl rfl trivial ?_)
    exact zv_iret (bX1_withBit 0) rfl (Or.inl rfl) (Nat.zero_le _) (Nat.zero_le _) ⟨rfl, by unfold wbW; rw [if_neg hc]⟩
set_option maxHeartbeats 1000000 in
set_option maxRecDepth 20000 in
theorem cMeans (O : Nat → Int32) (P : Nat → Nat → Int32) (Y : Nat → Nat → Int64) (g : Nat → zC) (x on : Int32) : zK 1 zX6_means [.ref 0, .int x, .int on] (wX O P Y g) (fun r w' => ((0 ≤ x.toInt ∧ x.toInt ≤ 9) ∧ w' = wX (upd O 0 (wbW (O 0) x on)) P Y g ∧ ((wbW (O 0) x on) = O 0 ∧ r = some (.int (Int32.ofInt 0)) ∨ ¬ (wbW (O 0) x on) = O 0 ∧ r = some (.int (Int32.ofInt 1)))) ∨ (¬ (0 ≤ x.toInt ∧ x.toInt ≤ 9) ∧ w' = wX O P Y g ∧ r = some (.int (Int32.ofInt (-1))))) := by
  refine zK_of qX6_means (by decide +kernel) rfl ?_
  iterate 1 (refine zv_step (bX6_means 1) rfl rfl trivial ?_)
  refine zv_S1 (bX6_means 1) rfl rfl rfl rfl ⟨rfl, rfl, rfl⟩ ⟨by decide, by decide⟩ ⟨Nat.zero_le _, Nat.zero_le _⟩ (hX6_isLetter _ _) ?_
  rintro _ _ ⟨rfl, ⟨hh, rfl⟩ | ⟨hh, rfl⟩⟩
  · iterate 1 (refine zv_step (bX6_means 1) rfl rfl trivial ?_)
    refine zv_ift (by decide) ?_
    iterate 8 (refine zv_step (bX6_means 1) rfl rfl trivial ?_)
    refine zv_S3 (bX6_means 1) rfl rfl rfl rfl ⟨rfl, rfl, rfl⟩ ⟨by decide, by decide⟩ ⟨Nat.zero_le _, Nat.zero_le _⟩ (pWithBit _ _ _ _) ?_
    rintro _ _ ⟨rfl, rfl⟩
    iterate 5 (refine zv_step (bX6_means 1) rfl rfl trivial ?_)
    refine zv_ifb (fun hc => ?_) (fun hc => ?_)
    · iterate 1 (refine zv_step (bX6_means 1) rfl rfl trivial ?_)
      exact zv_iret (bX6_means 1) rfl (Or.inl rfl) (Nat.zero_le _) (Nat.zero_le _) (Or.inl ⟨hh, rfl, Or.inr ⟨hc, rfl⟩⟩)
    · iterate 2 (refine zv_step (bX6_means 1) rfl rfl trivial ?_)
      exact zv_iret (bX6_means 1) rfl (Or.inl rfl) (Nat.zero_le _) (Nat.zero_le _) (Or.inl ⟨hh, rfl, Or.inl ⟨Decidable.not_not.mp hc, rfl⟩⟩)
  · iterate 1 (refine zv_step (bX6_means 1) rfl rfl trivial ?_)
    refine zv_iff (by decide) ?_
    iterate 1 (refine zv_step (bX6_means 1) rfl rfl trivial ?_)
    exact zv_iret (bX6_means 1) rfl (Or.inl rfl) (Nat.zero_le _) (Nat.zero_le _) (Or.inr ⟨hh, rfl, rfl⟩)
theorem hbW_or (x i : Int32) : hbW x i = Int32.ofInt 0 ∨ hbW x i = Int32.ofInt 1 := by
  unfold hbW
  split
  · exact Or.inl rfl
  · exact Or.inr rfl
set_option maxHeartbeats 1000000 in
set_option maxRecDepth 20000 in
theorem cKeeps (O : Nat → Int32) (P : Nat → Nat → Int32) (Y : Nat → Nat → Int64) (g : Nat → zC) (x k on : Int32) : zK 1 zX6_keeps [.ref 0, .int x, .int k, .int on] (wX O P Y g) (fun r w' => (((0 ≤ x.toInt ∧ x.toInt ≤ 7) ∧ (¬ k < 0 ∧ ¬ c8 9 < k) ∧ hbW (Int16.ofInt 764).toInt32 k = Int32.ofInt 1) ∧ w' = wX O (updA P 75 (upd (P 75) x.toNatClampNeg (wbW (P 75 x.toNatClampNeg) k on))) Y g ∧ ((wbW (P 75 x.toNatClampNeg) k on) = P 75 x.toNatClampNeg ∧ r = some (.int (Int32.ofInt 0)) ∨ ¬ (wbW (P 75 x.toNatClampNeg) k on) = P 75 x.toNatClampNeg ∧ r = some (.int (Int32.ofInt 1)))) ∨ (¬ ((0 ≤ x.toInt ∧ x.toInt ≤ 7) ∧ (¬ k < 0 ∧ ¬ c8 9 < k) ∧ hbW (Int16.ofInt 764).toInt32 k = Int32.ofInt 1) ∧ w' = wX O P Y g ∧ r = some (.int (Int32.ofInt (-1))))) := by
  refine zK_of qX6_keeps (by decide +kernel) rfl ?_
  iterate 1 (refine zv_step (bX6_keeps 1) rfl rfl trivial ?_)
  refine zv_S1 (bX6_keeps 1) rfl rfl rfl rfl ⟨rfl, rfl, rfl⟩ ⟨by decide, by decide⟩ ⟨Nat.zero_le _, Nat.zero_le _⟩ (hX6_isStyle _ _) ?_
  rintro _ _ ⟨rfl, ⟨hh, rfl⟩ | ⟨hh, rfl⟩⟩
  · iterate 1 (refine zv_step (bX6_keeps 1) rfl rfl trivial ?_)
    refine zv_iff (by decide) ?_
    iterate 2 (refine zv_step (bX6_keeps 1) rfl rfl trivial ?_)
    refine zv_ifb (fun h1 => ?_) (fun h1 => ?_)
    · iterate 1 (refine zv_step (bX6_keeps 1) rfl rfl trivial ?_)
      exact zv_iret (bX6_keeps 1) rfl (Or.inl rfl) (Nat.zero_le _) (Nat.zero_le _) (Or.inr ⟨fun q => q.2.1.1 h1, rfl, rfl⟩)
    · iterate 3 (refine zv_step (bX6_keeps 1) rfl rfl trivial ?_)
      refine zv_ifb (fun h2 => ?_) (fun h2 => ?_)
      · iterate 1 (refine zv_step (bX6_keeps 1) rfl rfl trivial ?_)
        exact zv_iret (bX6_keeps 1) rfl (Or.inl rfl) (Nat.zero_le _) (Nat.zero_le _) (Or.inr ⟨fun q => q.2.1.2 h2, rfl, rfl⟩)
      · iterate 2 (refine zv_step (bX6_keeps 1) rfl rfl trivial ?_)
        refine zv_S2 (bX6_keeps 1) rfl rfl rfl rfl ⟨rfl, rfl, rfl⟩ ⟨by decide, by decide⟩ ⟨Nat.zero_le _, Nat.zero_le _⟩ (pHasBitW _ _ _) ?_
        rintro _ _ ⟨rfl, rfl⟩
        iterate 1 (refine zv_step (bX6_keeps 1) rfl rfl trivial ?_)
        refine zv_ifb (fun h3 => ?_) (fun h3 => ?_)
        · have h4 : hbW (Int16.ofInt 764).toInt32 k = Int32.ofInt 1 := (hbW_or _ _).resolve_left h3
          iterate 3 (refine zv_step (bX6_keeps 1) rfl rfl trivial ?_)
          refine zv_step (bX6_keeps 1) rfl rfl (vp_in_iff.mpr ⟨hh.1, Int.lt_of_le_of_lt hh.2 (by decide)⟩) ?_
          iterate 7 (refine zv_step (bX6_keeps 1) rfl rfl trivial ?_)
          refine zv_S3 (bX6_keeps 1) rfl rfl rfl rfl ⟨rfl, rfl, rfl⟩ ⟨by decide, by decide⟩ ⟨Nat.zero_le _, Nat.zero_le _⟩ (pWithBit _ _ _ _) ?_
          rintro _ _ ⟨rfl, rfl⟩
          refine zv_step (bX6_keeps 1) rfl rfl (vp_in_iff.mpr ⟨hh.1, Int.lt_of_le_of_lt hh.2 (by decide)⟩) ?_
          iterate 3 (refine zv_step (bX6_keeps 1) rfl rfl trivial ?_)
          refine zv_iale (bX6_keeps 1) rfl rfl (vp_in_iff.mpr ⟨hh.1, Int.lt_of_le_of_lt hh.2 (by decide)⟩) (show (upd (P 75) x.toNatClampNeg (wbW (P 75 x.toNatClampNeg) k on)) x.toNatClampNeg = (wbW (P 75 x.toNatClampNeg) k on) from upd_self _ _ _) ?_
          iterate 2 (refine zv_step (bX6_keeps 1) rfl rfl trivial ?_)
          refine zv_ifb (fun hc => ?_) (fun hc => ?_)
          · iterate 1 (refine zv_step (bX6_keeps 1) rfl rfl trivial ?_)
            exact zv_iret (bX6_keeps 1) rfl (Or.inl rfl) (Nat.zero_le _) (Nat.zero_le _) (Or.inl ⟨⟨hh, ⟨h1, h2⟩, h4⟩, rfl, Or.inr ⟨hc, rfl⟩⟩)
          · iterate 2 (refine zv_step (bX6_keeps 1) rfl rfl trivial ?_)
            exact zv_iret (bX6_keeps 1) rfl (Or.inl rfl) (Nat.zero_le _) (Nat.zero_le _) (Or.inl ⟨⟨hh, ⟨h1, h2⟩, h4⟩, rfl, Or.inl ⟨Decidable.not_not.mp hc, rfl⟩⟩)
        · iterate 1 (refine zv_step (bX6_keeps 1) rfl rfl trivial ?_)
          exact zv_iret (bX6_keeps 1) rfl (Or.inl rfl) (Nat.zero_le _) (Nat.zero_le _) (Or.inr ⟨fun q => absurd (q.2.2.symm.trans (Decidable.not_not.mp h3)) (by decide), rfl, rfl⟩)
  · iterate 1 (refine zv_step (bX6_keeps 1) rfl rfl trivial ?_)
    refine zv_ift (by decide) ?_
    iterate 1 (refine zv_step (bX6_keeps 1) rfl rfl trivial ?_)
    exact zv_iret (bX6_keeps 1) rfl (Or.inl rfl) (Nat.zero_le _) (Nat.zero_le _) (Or.inr ⟨fun q => hh q.1, rfl, rfl⟩)
set_option maxHeartbeats 1000000 in
set_option maxRecDepth 20000 in
theorem cAlike (O : Nat → Int32) (P : Nat → Nat → Int32) (Y : Nat → Nat → Int64) (g : Nat → zC) (hu : (O 1).toInt ≤ 120) (x y : Int32) : zK 1 zX6_alike [.ref 0, .int x, .int y] (wX O P Y g) (fun r w' => w' = wX O P Y g ∧ ∃ v : Int32, r = some (.int v)) := by
  refine zK_of qX6_alike (by decide +kernel) rfl ?_
  iterate 3 (refine zv_step (bX6_alike 1) rfl rfl trivial ?_)
  refine zv_V1 (bX6_alike 1) rfl rfl rfl rfl rfl rfl rfl ⟨rfl, rfl, rfl⟩ ⟨by decide, by decide⟩ ⟨Nat.zero_le _, Nat.zero_le _⟩ (pHas1 O P Y g _) ?_
  rintro _ _ ⟨rfl, ⟨h1, rfl⟩ | ⟨h1, rfl⟩⟩
  · iterate 1 (refine zv_step (bX6_alike 1) rfl rfl trivial ?_)
    refine zv_iff (by decide) ?_
    iterate 3 (refine zv_step (bX6_alike 1) rfl rfl trivial ?_)
    refine zv_V1 (bX6_alike 1) rfl rfl rfl rfl rfl rfl rfl ⟨rfl, rfl, rfl⟩ ⟨by decide, by decide⟩ ⟨Nat.zero_le _, Nat.zero_le _⟩ (pHas1 O P Y g _) ?_
    rintro _ _ ⟨rfl, ⟨h2, rfl⟩ | ⟨h2, rfl⟩⟩
    · iterate 1 (refine zv_step (bX6_alike 1) rfl rfl trivial ?_)
      refine zv_ift (by decide) ?_
      iterate 4 (refine zv_step (bX6_alike 1) rfl rfl trivial ?_)
      refine zv_V2 (bX6_alike 1) rfl rfl rfl rfl rfl rfl rfl ⟨rfl, rfl, rfl⟩ ⟨by decide, by decide⟩ ⟨Nat.zero_le _, Nat.zero_le _⟩ (pAlike1 O P Y g (vp_in_iff.mpr ⟨h1.1, Int.lt_of_lt_of_le h1.2 hu⟩) (vp_in_iff.mpr ⟨h2.1, Int.lt_of_lt_of_le h2.2 hu⟩)) ?_
      rintro _ _ ⟨rfl, ⟨h3, rfl⟩ | ⟨h3, rfl⟩⟩
      · iterate 1 (refine zv_step (bX6_alike 1) rfl rfl trivial ?_)
        refine zv_iff (by decide) ?_
        iterate 2 (refine zv_step (bX6_alike 1) rfl rfl trivial ?_)
        exact zv_iret (bX6_alike 1) rfl (Or.inl rfl) (Nat.zero_le _) (Nat.zero_le _) ⟨rfl, _, rfl⟩
      · iterate 1 (refine zv_step (bX6_alike 1) rfl rfl trivial ?_)
        refine zv_ift (by decide) ?_
        iterate 1 (refine zv_step (bX6_alike 1) rfl rfl trivial ?_)
        exact zv_iret (bX6_alike 1) rfl (Or.inl rfl) (Nat.zero_le _) (Nat.zero_le _) ⟨rfl, _, rfl⟩
    · iterate 1 (refine zv_step (bX6_alike 1) rfl rfl trivial ?_)
      refine zv_iff (by decide) ?_
      iterate 1 (refine zv_step (bX6_alike 1) rfl rfl trivial ?_)
      exact zv_iret (bX6_alike 1) rfl (Or.inl rfl) (Nat.zero_le _) (Nat.zero_le _) ⟨rfl, _, rfl⟩
  · iterate 1 (refine zv_step (bX6_alike 1) rfl rfl trivial ?_)
    refine zv_ift (by decide) ?_
    iterate 1 (refine zv_step (bX6_alike 1) rfl rfl trivial ?_)
    exact zv_iret (bX6_alike 1) rfl (Or.inl rfl) (Nat.zero_le _) (Nat.zero_le _) ⟨rfl, _, rfl⟩
set_option maxHeartbeats 1000000 in
set_option maxRecDepth 20000 in
theorem pdifferenceOf (O : Nat → Int32) (P : Nat → Nat → Int32) (Y : Nat → Nat → Int64) (g : Nat → zC) (hu : (O 1).toInt ≤ 120) (x y : Int32) : zK 42 zX2_differenceOf [.ref 1, .int x, .int y] (wX O P Y g) (fun r w' => w' = wX O P Y g ∧ ∃ v : Int32, r = some (.int v)) := by
  refine zK_of qX2_differenceOf (by decide +kernel) rfl ?_
  iterate 4 (refine zv_step (bX2_differenceOf 42) rfl rfl trivial ?_)
  refine zv_V3 (bX2_differenceOf 42) rfl rfl rfl rfl rfl rfl rfl ⟨rfl, rfl, rfl⟩ ⟨by decide, by decide⟩ ⟨Nat.zero_le _, Nat.zero_le _⟩ (pDiff1 O P Y g hu 40 (by decide) _ _ _ rfl) ?_
  rintro _ _ ⟨rfl, rfl⟩
  exact zv_iret (bX2_differenceOf 42) rfl (Or.inl rfl) (Nat.zero_le _) (Nat.zero_le _) ⟨rfl, _, rfl⟩
set_option maxHeartbeats 1000000 in
set_option maxRecDepth 20000 in
theorem cChanged (O : Nat → Int32) (P : Nat → Nat → Int32) (Y : Nat → Nat → Int64) (g : Nat → zC) (hu : (O 1).toInt ≤ 120) (x y : Int32) : zK 43 zX6_changed [.ref 0, .int x, .int y] (wX O P Y g) (fun r w' => w' = wX O P Y g ∧ ∃ v : Int32, r = some (.int v)) := by
  refine zK_of qX6_changed (by decide +kernel) rfl ?_
  iterate 3 (refine zv_step (bX6_changed 43) rfl rfl trivial ?_)
  refine zv_V1 (bX6_changed 43) rfl rfl rfl rfl rfl rfl rfl ⟨rfl, rfl, rfl⟩ ⟨by decide, by decide⟩ ⟨Nat.zero_le _, Nat.zero_le _⟩ (pHas1 O P Y g _) ?_
  rintro _ _ ⟨rfl, ⟨h1, rfl⟩ | ⟨h1, rfl⟩⟩
  · iterate 1 (refine zv_step (bX6_changed 43) rfl rfl trivial ?_)
    refine zv_iff (by decide) ?_
    iterate 3 (refine zv_step (bX6_changed 43) rfl rfl trivial ?_)
    refine zv_V1 (bX6_changed 43) rfl rfl rfl rfl rfl rfl rfl ⟨rfl, rfl, rfl⟩ ⟨by decide, by decide⟩ ⟨Nat.zero_le _, Nat.zero_le _⟩ (pHas1 O P Y g _) ?_
    rintro _ _ ⟨rfl, ⟨h2, rfl⟩ | ⟨h2, rfl⟩⟩
    · iterate 1 (refine zv_step (bX6_changed 43) rfl rfl trivial ?_)
      refine zv_ift (by decide) ?_
      iterate 4 (refine zv_step (bX6_changed 43) rfl rfl trivial ?_)
      refine zv_V2 (bX6_changed 43) rfl rfl rfl rfl rfl rfl rfl ⟨rfl, rfl, rfl⟩ ⟨by decide, by decide⟩ ⟨Nat.zero_le _, Nat.zero_le _⟩ (pdifferenceOf O P Y g hu _ _) ?_
      rintro _ _ ⟨rfl, v, rfl⟩
      exact zv_iret (bX6_changed 43) rfl (Or.inl rfl) (Nat.zero_le _) (Nat.zero_le _) ⟨rfl, _, rfl⟩
    · iterate 1 (refine zv_step (bX6_changed 43) rfl rfl trivial ?_)
      refine zv_iff (by decide) ?_
      iterate 1 (refine zv_step (bX6_changed 43) rfl rfl trivial ?_)
      exact zv_iret (bX6_changed 43) rfl (Or.inl rfl) (Nat.zero_le _) (Nat.zero_le _) ⟨rfl, _, rfl⟩
  · iterate 1 (refine zv_step (bX6_changed 43) rfl rfl trivial ?_)
    refine zv_ift (by decide) ?_
    iterate 1 (refine zv_step (bX6_changed 43) rfl rfl trivial ?_)
    exact zv_iret (bX6_changed 43) rfl (Or.inl rfl) (Nat.zero_le _) (Nat.zero_le _) ⟨rfl, _, rfl⟩
set_option maxHeartbeats 1000000 in
set_option maxRecDepth 20000 in
theorem pexchangesOf (O : Nat → Int32) (P : Nat → Nat → Int32) (Y : Nat → Nat → Int64) (g : Nat → zC) (hu : (O 1).toInt ≤ 120) (x y : Int32) : zK 42 zX2_exchangesOf [.ref 1, .int x, .int y] (wX O P Y g) (fun r w' => w' = wX O P Y g ∧ ∃ v : Int32, r = some (.int v)) := by
  refine zK_of qX2_exchangesOf (by decide +kernel) rfl ?_
  iterate 4 (refine zv_step (bX2_exchangesOf 42) rfl rfl trivial ?_)
  refine zv_V3 (bX2_exchangesOf 42) rfl rfl rfl rfl rfl rfl rfl ⟨rfl, rfl, rfl⟩ ⟨by decide, by decide⟩ ⟨Nat.zero_le _, Nat.zero_le _⟩ (pExch1 O P Y g hu 40 (by decide) _ _ _ rfl) ?_
  rintro _ _ ⟨rfl, rfl⟩
  exact zv_iret (bX2_exchangesOf 42) rfl (Or.inl rfl) (Nat.zero_le _) (Nat.zero_le _) ⟨rfl, _, rfl⟩
set_option maxHeartbeats 1000000 in
set_option maxRecDepth 20000 in
theorem cExchanged (O : Nat → Int32) (P : Nat → Nat → Int32) (Y : Nat → Nat → Int64) (g : Nat → zC) (hu : (O 1).toInt ≤ 120) (x y : Int32) : zK 43 zX6_exchanged [.ref 0, .int x, .int y] (wX O P Y g) (fun r w' => w' = wX O P Y g ∧ ∃ v : Int32, r = some (.int v)) := by
  refine zK_of qX6_exchanged (by decide +kernel) rfl ?_
  iterate 3 (refine zv_step (bX6_exchanged 43) rfl rfl trivial ?_)
  refine zv_V1 (bX6_exchanged 43) rfl rfl rfl rfl rfl rfl rfl ⟨rfl, rfl, rfl⟩ ⟨by decide, by decide⟩ ⟨Nat.zero_le _, Nat.zero_le _⟩ (pHas1 O P Y g _) ?_
  rintro _ _ ⟨rfl, ⟨h1, rfl⟩ | ⟨h1, rfl⟩⟩
  · iterate 1 (refine zv_step (bX6_exchanged 43) rfl rfl trivial ?_)
    refine zv_iff (by decide) ?_
    iterate 3 (refine zv_step (bX6_exchanged 43) rfl rfl trivial ?_)
    refine zv_V1 (bX6_exchanged 43) rfl rfl rfl rfl rfl rfl rfl ⟨rfl, rfl, rfl⟩ ⟨by decide, by decide⟩ ⟨Nat.zero_le _, Nat.zero_le _⟩ (pHas1 O P Y g _) ?_
    rintro _ _ ⟨rfl, ⟨h2, rfl⟩ | ⟨h2, rfl⟩⟩
    · iterate 1 (refine zv_step (bX6_exchanged 43) rfl rfl trivial ?_)
      refine zv_ift (by decide) ?_
      iterate 4 (refine zv_step (bX6_exchanged 43) rfl rfl trivial ?_)
      refine zv_V2 (bX6_exchanged 43) rfl rfl rfl rfl rfl rfl rfl ⟨rfl, rfl, rfl⟩ ⟨by decide, by decide⟩ ⟨Nat.zero_le _, Nat.zero_le _⟩ (pexchangesOf O P Y g hu _ _) ?_
      rintro _ _ ⟨rfl, v, rfl⟩
      exact zv_iret (bX6_exchanged 43) rfl (Or.inl rfl) (Nat.zero_le _) (Nat.zero_le _) ⟨rfl, _, rfl⟩
    · iterate 1 (refine zv_step (bX6_exchanged 43) rfl rfl trivial ?_)
      refine zv_iff (by decide) ?_
      iterate 1 (refine zv_step (bX6_exchanged 43) rfl rfl trivial ?_)
      exact zv_iret (bX6_exchanged 43) rfl (Or.inl rfl) (Nat.zero_le _) (Nat.zero_le _) ⟨rfl, _, rfl⟩
  · iterate 1 (refine zv_step (bX6_exchanged 43) rfl rfl trivial ?_)
    refine zv_ift (by decide) ?_
    iterate 1 (refine zv_step (bX6_exchanged 43) rfl rfl trivial ?_)
    exact zv_iret (bX6_exchanged 43) rfl (Or.inl rfl) (Nat.zero_le _) (Nat.zero_le _) ⟨rfl, _, rfl⟩
set_option maxHeartbeats 1000000 in
set_option maxRecDepth 20000 in
theorem cHush (O : Nat → Int32) (P : Nat → Nat → Int32) (Y : Nat → Nat → Int64) (g : Nat → zC) : zK 0 zX6_hush [.ref 0] (wX O P Y g) (fun r w' => r = some (.int (O 9)) ∧ w' = wX (upd O 9 (Int32.ofInt 0)) P Y g) := by
  refine zK_of qX6_hush (by decide +kernel) rfl ?_
  iterate 9 (refine zv_step (bX6_hush 0) rfl rfl trivial ?_)
  exact zv_iret (bX6_hush 0) rfl (Or.inl rfl) (Nat.zero_le _) (Nat.zero_le _) ⟨rfl, rfl⟩
set_option maxHeartbeats 1000000 in
set_option maxRecDepth 20000 in
theorem cEar (O : Nat → Int32) (P : Nat → Nat → Int32) (Y : Nat → Nat → Int64) (g : Nat → zC) {l : Nat} (hl : l ≤ 20) (hO : O 9 = nI l) (x : Int32) : zK 0 zX6_ear [.ref 0, .int x] (wX O P Y g) (fun r w' => w' = wX O P Y g ∧ ∃ v : Int32, r = some (.int v)) := by
  refine zK_of qX6_ear (by decide +kernel) rfl ?_
  iterate 2 (refine zv_step (bX6_ear 0) rfl rfl trivial ?_)
  refine zv_ifb (fun h1 => ?_) (fun h1 => ?_)
  · iterate 2 (refine zv_step (bX6_ear 0) rfl rfl trivial ?_)
    exact zv_iret (bX6_ear 0) rfl (Or.inl rfl) (Nat.zero_le _) (Nat.zero_le _) ⟨rfl, _, rfl⟩
  · iterate 5 (refine zv_step (bX6_ear 0) rfl rfl trivial ?_)
    refine zv_ifb (fun h2 => ?_) (fun h2 => ?_)
    · iterate 4 (refine zv_step (bX6_ear 0) rfl rfl trivial ?_)
      refine zv_step (bX6_ear 0) rfl rfl (by have h2 : x < O 9 := h2; rw [hO, Int32.lt_iff_toInt_lt, nI_toInt (by omega)] at h2; have h1 : ¬ x < 0 := h1; rw [Int32.lt_iff_toInt_lt, Int32.toInt_zero] at h1; exact vp_in_iff.mpr ⟨by omega, by omega⟩) ?_
      exact zv_iret (bX6_ear 0) rfl (Or.inl rfl) (Nat.zero_le _) (Nat.zero_le _) ⟨rfl, _, rfl⟩
    · iterate 2 (refine zv_step (bX6_ear 0) rfl rfl trivial ?_)
      exact zv_iret (bX6_ear 0) rfl (Or.inl rfl) (Nat.zero_le _) (Nat.zero_le _) ⟨rfl, _, rfl⟩
end
section
theorem upd_same {f : Nat → Int32} {i : Nat} {x : Int32} (h : f i = x) : upd f i x = f := by
  funext j
  unfold upd
  split
  · rename_i e; subst e; exact h.symm
  · rfl
theorem upd_3 (O : Nat → Int32) (a b c : Int32) {j : Nat} (h1 : j ≠ 10) (h2 : j ≠ 11) (h3 : j ≠ 12) : upd (upd (upd O 10 a) 11 b) 12 c j = O j := by
  rw [upd_ne _ _ h3, upd_ne _ _ h2, upd_ne _ _ h1]
set_option maxHeartbeats 1000000 in
set_option maxRecDepth 20000 in
theorem cTallyIn (O : Nat → Int32) (P : Nat → Nat → Int32) (Y : Nat → Nat → Int64) (g : Nat → zC) {l : Nat} (hl : l ≤ 20) (hO : O 9 = nI l) {x : Int32} (hx : 0 ≤ x.toInt ∧ x.toInt ≤ 8) : zK 5 zX6_tallyIn [.ref 0, .int x] (wX O P Y g) (fun r w' => ∃ (a b : Int32) (Y' : Nat → Nat → Int64) (v : Int64), r = some (.long v) ∧ w' = wX (upd (upd (upd O 10 a) 11 b) 12 (O 0)) P Y' g ∧ (wyI Y → wyI Y')) := by
  refine zK_of qX6_tallyIn (by decide +kernel) rfl ?_
  iterate 3 (refine zv_step (bX6_tallyIn 5) rfl rfl trivial ?_)
  refine zv_ifb (fun h1 => ?_) (fun h1 => ?_)
  · have h2 : ¬ x.toInt = 8 := fun e => h1 (Int32.toInt_inj.mp (e.trans (i8c 8 (by decide)).symm))
    iterate 3 (refine zv_step (bX6_tallyIn 5) rfl rfl trivial ?_)
    refine zv_step (bX6_tallyIn 5) rfl rfl (vp_in_iff.mpr ⟨hx.1, by omega⟩) ?_
    iterate 4 (refine zv_step (bX6_tallyIn 5) rfl rfl trivial ?_)
    refine zv_ift (h1) ?_
    iterate 12 (refine zv_step (bX6_tallyIn 5) rfl rfl trivial ?_)
    refine zv_V3 (bX6_tallyIn 5) rfl rfl rfl rfl rfl rfl rfl ⟨rfl, rfl, rfl⟩ ⟨by decide, by decide⟩ ⟨Nat.zero_le _, Nat.zero_le _⟩ (hTally O P Y g hl hO _ _ _) ?_
    rintro _ _ ⟨Y1, v, rfl, rfl, hw⟩
    iterate 1 (refine zv_step (bX6_tallyIn 5) rfl rfl trivial ?_)
    refine zv_minJ (bX6_tallyIn 5) rfl zMinL rfl ⟨by decide, by decide⟩ ⟨Nat.zero_le _, Nat.zero_le _⟩ ?_
    exact zv_lret (bX6_tallyIn 5) rfl rfl (Nat.zero_le _) (Nat.zero_le _) ⟨_, _, Y1, _, rfl, rfl, hw⟩
  · iterate 6 (refine zv_step (bX6_tallyIn 5) rfl rfl trivial ?_)
    refine zv_iff (h1) ?_
    iterate 9 (refine zv_step (bX6_tallyIn 5) rfl rfl trivial ?_)
    refine zv_V3 (bX6_tallyIn 5) rfl rfl rfl rfl rfl rfl rfl ⟨rfl, rfl, rfl⟩ ⟨by decide, by decide⟩ ⟨Nat.zero_le _, Nat.zero_le _⟩ (hTally O P Y g hl hO _ _ _) ?_
    rintro _ _ ⟨Y1, v, rfl, rfl, hw⟩
    iterate 1 (refine zv_step (bX6_tallyIn 5) rfl rfl trivial ?_)
    refine zv_minJ (bX6_tallyIn 5) rfl zMinL rfl ⟨by decide, by decide⟩ ⟨Nat.zero_le _, Nat.zero_le _⟩ ?_
    exact zv_lret (bX6_tallyIn 5) rfl rfl (Nat.zero_le _) (Nat.zero_le _) ⟨_, _, Y1, _, rfl, rfl, hw⟩
set_option maxHeartbeats 1000000 in
set_option maxRecDepth 20000 in
theorem cPlace (O : Nat → Int32) (P : Nat → Nat → Int32) (Y : Nat → Nat → Int64) (g : Nat → zC) (hu : (O 1).toInt ≤ 120) {l : Nat} (hl : l ≤ 20) (hO : O 9 = nI l) (x n : Int32) : zK 66 zX6_place [.ref 0, .int x, .int n] (wX O P Y g) (fun r w' => ∃ (O' : Nat → Int32) (Y' : Nat → Nat → Int64) (v : Int64), r = some (.long v) ∧ w' = wX O' P Y' g ∧ (wyI Y → wyI Y') ∧ ∀ j, j ≠ 10 → j ≠ 11 → j ≠ 12 → O' j = O j) := by
  refine zK_of qX6_place (by decide +kernel) rfl ?_
  iterate 1 (refine zv_step (bX6_place 66) rfl rfl trivial ?_)
  refine zv_S1 (bX6_place 66) rfl rfl rfl rfl ⟨rfl, rfl, rfl⟩ ⟨by decide, by decide⟩ ⟨Nat.zero_le _, Nat.zero_le _⟩ (hX6_isStyleOrFree _ _) ?_
  rintro _ _ ⟨rfl, ⟨hx, rfl⟩ | ⟨hx, rfl⟩⟩
  · iterate 1 (refine zv_step (bX6_place 66) rfl rfl trivial ?_)
    refine zv_iff (by decide) ?_
    iterate 3 (refine zv_step (bX6_place 66) rfl rfl trivial ?_)
    refine zv_V1 (bX6_place 66) rfl rfl rfl rfl rfl rfl rfl ⟨rfl, rfl, rfl⟩ ⟨by decide, by decide⟩ ⟨Nat.zero_le _, Nat.zero_le _⟩ (pHas1 O P Y g _) ?_
    rintro _ _ ⟨rfl, ⟨hh, rfl⟩ | ⟨hh, rfl⟩⟩
    · iterate 1 (refine zv_step (bX6_place 66) rfl rfl trivial ?_)
      refine zv_ift (by decide) ?_
      iterate 5 (refine zv_step (bX6_place 66) rfl rfl trivial ?_)
      refine zv_V2 (bX6_place 66) rfl rfl rfl rfl rfl rfl rfl ⟨rfl, rfl, rfl⟩ ⟨by decide, by decide⟩ ⟨Nat.zero_le _, Nat.zero_le _⟩ (pRight1 O P Y g _ (vp_in_iff.mpr ⟨hh.1, Int.lt_of_lt_of_le hh.2 hu⟩)) ?_
      rintro _ _ ⟨rfl, ⟨hr, rfl⟩ | ⟨hr, rfl⟩⟩
      · iterate 1 (refine zv_step (bX6_place 66) rfl rfl trivial ?_)
        refine zv_ift (by decide) ?_
        iterate 2 (refine zv_step (bX6_place 66) rfl rfl trivial ?_)
        refine zv_V1 (bX6_place 66) rfl rfl rfl rfl rfl rfl rfl ⟨rfl, rfl, rfl⟩ ⟨by decide, by decide⟩ ⟨Nat.zero_le _, Nat.zero_le _⟩ (cTallyIn O P Y g hl hO hx) ?_
        rintro _ _ ⟨a, b, Y1, v, rfl, rfl, hw⟩
        iterate 6 (refine zv_step (bX6_place 66) rfl rfl trivial ?_)
        refine zv_V2 (bX6_place 66) rfl rfl rfl rfl rfl rfl rfl ⟨rfl, rfl, rfl⟩ ⟨by decide, by decide⟩ ⟨Nat.zero_le _, Nat.zero_le _⟩ (hPlace (upd (upd (upd O 10 a) 11 b) 12 (O 0)) P Y1 g hu hl hO _) ?_
        rintro _ _ ⟨rfl, v2, rfl⟩
        iterate 5 (refine zv_step (bX6_place 66) rfl rfl trivial ?_)
        refine zv_ifb (fun h5 => ?_) (fun h5 => ?_)
        · iterate 1 (refine zv_step (bX6_place 66) rfl rfl trivial ?_)
          exact zv_lret (bX6_place 66) rfl rfl (Nat.zero_le _) (Nat.zero_le _) ⟨_, Y1, _, rfl, rfl, hw, fun j a1 a2 a3 => upd_3 O a b (O 0) a1 a2 a3⟩
        · iterate 2 (refine zv_step (bX6_place 66) rfl rfl trivial ?_)
          exact zv_lret (bX6_place 66) rfl rfl (Nat.zero_le _) (Nat.zero_le _) ⟨_, Y1, _, rfl, rfl, hw, fun j a1 a2 a3 => upd_3 O a b (O 0) a1 a2 a3⟩
      · iterate 1 (refine zv_step (bX6_place 66) rfl rfl trivial ?_)
        refine zv_iff (by decide) ?_
        iterate 1 (refine zv_step (bX6_place 66) rfl rfl trivial ?_)
        exact zv_lret (bX6_place 66) rfl rfl (Nat.zero_le _) (Nat.zero_le _) ⟨O, Y, _, rfl, rfl, id, fun _ _ _ _ => rfl⟩
    · iterate 1 (refine zv_step (bX6_place 66) rfl rfl trivial ?_)
      refine zv_iff (by decide) ?_
      iterate 1 (refine zv_step (bX6_place 66) rfl rfl trivial ?_)
      exact zv_lret (bX6_place 66) rfl rfl (Nat.zero_le _) (Nat.zero_le _) ⟨O, Y, _, rfl, rfl, id, fun _ _ _ _ => rfl⟩
  · iterate 1 (refine zv_step (bX6_place 66) rfl rfl trivial ?_)
    refine zv_ift (by decide) ?_
    iterate 1 (refine zv_step (bX6_place 66) rfl rfl trivial ?_)
    exact zv_lret (bX6_place 66) rfl rfl (Nat.zero_le _) (Nat.zero_le _) ⟨O, Y, _, rfl, rfl, id, fun _ _ _ _ => rfl⟩
end
section
/-- what write, doubt and their like may change of the class: the pages and the ways -/
def grW (O : Nat → Int32) (P : Nat → Nat → Int32) (u : Nat) (O' : Nat → Int32) (P' : Nat → Nat → Int32) (Y' : Nat → Nat → Int64) : Prop := wyI Y' ∧ (∃ u' : Nat, O' 1 = nI u' ∧ u ≤ u' ∧ u' ≤ 120 ∧ pgB 1 u' P') ∧ (∀ j, j ≠ 1 → j ≠ 2 → j ≠ 10 → j ≠ 11 → j ≠ 12 → O' j = O j) ∧ (∀ i, 26 < i → P' i = P i)
end
section
/-- what the sayings may change of the class: speeches, and what is heard -/
def spW (O : Nat → Int32) (P : Nat → Nat → Int32) (O' : Nat → Int32) (P' : Nat → Nat → Int32) : Prop := (∃ l' : Nat, l' ≤ 20 ∧ O' 9 = nI l') ∧ (∀ j, j < 3 ∨ 9 < j → O' j = O j) ∧ (∀ i, i ≠ 28 → i ≠ 30 → i ≠ 32 → P' i = P i)
theorem has_j {u : Nat} {n : Int32} (hu : u ≤ 120) {o1 : Int32} (h1 : o1 = nI u) (h : 0 ≤ n.toInt ∧ n.toInt < o1.toInt) : ∃ j : Nat, j < u ∧ n = nI j := by
  rw [h1, nI_toInt (by omega)] at h
  refine ⟨n.toInt.toNat, by omega, ?_⟩
  rw [← Int32.toInt_inj, nI_toInt (by omega)]
  omega
end
section
theorem dSs : ∀ {s : Nat}, s < 8 → ([some 59, some 61, some 63, some 65, some 67, some 69, some 71, some 73] : List (Option Nat)).getD s none = some (59 + 2 * s) := by
  intro s hs
  match s, hs with
  | 0, _ => rfl
  | 1, _ => rfl
  | 2, _ => rfl
  | 3, _ => rfl
  | 4, _ => rfl
  | 5, _ => rfl
  | 6, _ => rfl
  | 7, _ => rfl
  | n + 8, h => exact absurd h (by omega)
theorem sh_of {x : Int32} (h : 0 ≤ x.toInt ∧ x.toInt ≤ 7) : ∃ s : Nat, s < 8 ∧ x = nI s := by
  refine ⟨x.toInt.toNat, by omega, ?_⟩
  rw [← Int32.toInt_inj, nI_toInt (by omega)]
  omega
set_option maxHeartbeats 1000000 in
set_option maxRecDepth 20000 in
theorem cMake (O : Nat → Int32) (P : Nat → Nat → Int32) (Y : Nat → Nat → Int64) (g : Nat → zC) (x k n : Int32) : zK 1 zX6_make [.ref 0, .int x, .int k, .int n] (wX O P Y g) (fun r w' => (∃ R : Int32, r = some (.int R)) ∧ (w' = wX O P Y g ∨ ∃ (s : Nat) (a : Int32) (m : Nat) (P' : Nat → Nat → Int32), s < 8 ∧ m ≤ 60 ∧ w' = wX (upd (upd O (20 + 10 * s) a) (24 + 10 * s) (nI m)) P' Y g ∧ ∀ j, j ≠ 60 + 2 * s → P' j = P j)) := by
  refine zK_of qX6_make (by decide +kernel) rfl ?_
  iterate 1 (refine zv_step (bX6_make 1) rfl rfl trivial ?_)
  refine zv_S1 (bX6_make 1) rfl rfl rfl rfl ⟨rfl, rfl, rfl⟩ ⟨by decide, by decide⟩ ⟨Nat.zero_le _, Nat.zero_le _⟩ (hX6_isShelf _ _) ?_
  rintro _ _ ⟨rfl, ⟨hx, rfl⟩ | ⟨hx, rfl⟩⟩
  · iterate 1 (refine zv_step (bX6_make 1) rfl rfl trivial ?_)
    refine zv_iff (by decide) ?_
    obtain ⟨s, hs, rfl⟩ := sh_of hx
    iterate 3 (refine zv_step (bX6_make 1) rfl rfl trivial ?_)
    refine zv_ifb (fun h1 => ?_) (fun h1 => ?_)
    · iterate 3 (refine zv_step (bX6_make 1) rfl rfl trivial ?_)
      refine zv_ifb (fun h3 => ?_) (fun h3 => ?_)
      · iterate 2 (refine zv_step (bX6_make 1) rfl rfl trivial ?_)
        refine zv_ifb (fun h4 => ?_) (fun h4 => ?_)
        · obtain ⟨m, hm, rfl⟩ : ∃ m : Nat, m ≤ 60 ∧ n = nI m := by
            have h3 : n ≤ c8 60 := h3
            have h4 : 0 ≤ n := h4
            rw [Int32.le_iff_toInt_le, i8c 60 (by decide)] at h3
            rw [Int32.le_iff_toInt_le, Int32.toInt_zero] at h4
            refine ⟨n.toInt.toNat, by omega, ?_⟩
            rw [← Int32.toInt_inj, nI_toInt (by omega)]
            omega
          iterate 1 (refine zv_step (bX6_make 1) rfl rfl trivial ?_)
          refine zv_getf (bX6_make 1) rfl (rfl) rfl ?_
          iterate 1 (refine zv_step (bX6_make 1) rfl rfl trivial ?_)
          refine zv_aald (bX6_make 1) rfl (Or.inl rfl) rfl (show vp_in (nI s) 8 from vp_in_nI (by omega) (by decide)) (show ([some 59, some 61, some 63, some 65, some 67, some 69, some 71, some 73] : List (Option Nat)).getD (nI s).toNatClampNeg none = some (59 + 2 * s) by rw [nI_clamp (by omega)]; exact dSs hs) ?_
          iterate 2 (refine zv_step (bX6_make 1) rfl rfl trivial ?_)
          refine zv_V2 (bX6_make 1) rfl rfl rfl (wS O P Y g hs) rfl rfl rfl ⟨rfl, rfl, rfl⟩ ⟨by decide, by decide⟩ ⟨Nat.zero_le _, Nat.zero_le _⟩ (hNoughts O P Y g hs _ _) ?_
          rintro _ _ ⟨rfl, P1, rfl, hP1⟩
          iterate 1 (refine zv_step (bX6_make 1) rfl rfl trivial ?_)
          exact zv_iret (bX6_make 1) rfl (Or.inl rfl) (Nat.zero_le _) (Nat.zero_le _) ⟨⟨_, rfl⟩, Or.inr ⟨s, _, m, P1, hs, hm, rfl, hP1⟩⟩
        · iterate 1 (refine zv_step (bX6_make 1) rfl rfl trivial ?_)
          exact zv_iret (bX6_make 1) rfl (Or.inl rfl) (Nat.zero_le _) (Nat.zero_le _) ⟨⟨_, rfl⟩, Or.inl rfl⟩
      · iterate 1 (refine zv_step (bX6_make 1) rfl rfl trivial ?_)
        exact zv_iret (bX6_make 1) rfl (Or.inl rfl) (Nat.zero_le _) (Nat.zero_le _) ⟨⟨_, rfl⟩, Or.inl rfl⟩
    · iterate 3 (refine zv_step (bX6_make 1) rfl rfl trivial ?_)
      refine zv_ifb (fun h2 => ?_) (fun h2 => ?_)
      · iterate 1 (refine zv_step (bX6_make 1) rfl rfl trivial ?_)
        exact zv_iret (bX6_make 1) rfl (Or.inl rfl) (Nat.zero_le _) (Nat.zero_le _) ⟨⟨_, rfl⟩, Or.inl rfl⟩
      · iterate 3 (refine zv_step (bX6_make 1) rfl rfl trivial ?_)
        refine zv_ifb (fun h3 => ?_) (fun h3 => ?_)
        · iterate 2 (refine zv_step (bX6_make 1) rfl rfl trivial ?_)
          refine zv_ifb (fun h4 => ?_) (fun h4 => ?_)
          · obtain ⟨m, hm, rfl⟩ : ∃ m : Nat, m ≤ 60 ∧ n = nI m := by
              have h3 : n ≤ c8 60 := h3
              have h4 : 0 ≤ n := h4
              rw [Int32.le_iff_toInt_le, i8c 60 (by decide)] at h3
              rw [Int32.le_iff_toInt_le, Int32.toInt_zero] at h4
              refine ⟨n.toInt.toNat, by omega, ?_⟩
              rw [← Int32.toInt_inj, nI_toInt (by omega)]
              omega
            iterate 1 (refine zv_step (bX6_make 1) rfl rfl trivial ?_)
            refine zv_getf (bX6_make 1) rfl (rfl) rfl ?_
            iterate 1 (refine zv_step (bX6_make 1) rfl rfl trivial ?_)
            refine zv_aald (bX6_make 1) rfl (Or.inl rfl) rfl (show vp_in (nI s) 8 from vp_in_nI (by omega) (by decide)) (show ([some 59, some 61, some 63, some 65, some 67, some 69, some 71, some 73] : List (Option Nat)).getD (nI s).toNatClampNeg none = some (59 + 2 * s) by rw [nI_clamp (by omega)]; exact dSs hs) ?_
            iterate 2 (refine zv_step (bX6_make 1) rfl rfl trivial ?_)
            refine zv_V2 (bX6_make 1) rfl rfl rfl (wS O P Y g hs) rfl rfl rfl ⟨rfl, rfl, rfl⟩ ⟨by decide, by decide⟩ ⟨Nat.zero_le _, Nat.zero_le _⟩ (hNoughts O P Y g hs _ _) ?_
            rintro _ _ ⟨rfl, P1, rfl, hP1⟩
            iterate 1 (refine zv_step (bX6_make 1) rfl rfl trivial ?_)
            exact zv_iret (bX6_make 1) rfl (Or.inl rfl) (Nat.zero_le _) (Nat.zero_le _) ⟨⟨_, rfl⟩, Or.inr ⟨s, _, m, P1, hs, hm, rfl, hP1⟩⟩
          · iterate 1 (refine zv_step (bX6_make 1) rfl rfl trivial ?_)
            exact zv_iret (bX6_make 1) rfl (Or.inl rfl) (Nat.zero_le _) (Nat.zero_le _) ⟨⟨_, rfl⟩, Or.inl rfl⟩
        · iterate 1 (refine zv_step (bX6_make 1) rfl rfl trivial ?_)
          exact zv_iret (bX6_make 1) rfl (Or.inl rfl) (Nat.zero_le _) (Nat.zero_le _) ⟨⟨_, rfl⟩, Or.inl rfl⟩
  · iterate 1 (refine zv_step (bX6_make 1) rfl rfl trivial ?_)
    refine zv_ift (by decide) ?_
    iterate 1 (refine zv_step (bX6_make 1) rfl rfl trivial ?_)
    exact zv_iret (bX6_make 1) rfl (Or.inl rfl) (Nat.zero_le _) (Nat.zero_le _) ⟨⟨_, rfl⟩, Or.inl rfl⟩
set_option maxHeartbeats 1000000 in
set_option maxRecDepth 20000 in
theorem cRefusal (O : Nat → Int32) (P : Nat → Nat → Int32) (Y : Nat → Nat → Int64) (g : Nat → zC) (x : Int32) : zK 1 zX6_nodeRefusal [.ref 0, .int x] (wX O P Y g) (fun r w' => w' = wX O P Y g ∧ ∃ v : Int32, r = some (.int v) ∧ (0 ≤ v → ∃ s : Nat, s < 8 ∧ x = nI s)) := by
  refine zK_of qX6_nodeRefusal (by decide +kernel) rfl ?_
  iterate 1 (refine zv_step (bX6_nodeRefusal 1) rfl rfl trivial ?_)
  refine zv_S1 (bX6_nodeRefusal 1) rfl rfl rfl rfl ⟨rfl, rfl, rfl⟩ ⟨by decide, by decide⟩ ⟨Nat.zero_le _, Nat.zero_le _⟩ (hX6_isShelf _ _) ?_
  rintro _ _ ⟨rfl, ⟨hx, rfl⟩ | ⟨hx, rfl⟩⟩
  · iterate 1 (refine zv_step (bX6_nodeRefusal 1) rfl rfl trivial ?_)
    refine zv_ift (by decide) ?_
    obtain ⟨s, hs, rfl⟩ := sh_of hx
    iterate 1 (refine zv_step (bX6_nodeRefusal 1) rfl rfl trivial ?_)
    refine zv_getf (bX6_nodeRefusal 1) rfl (rfl) rfl ?_
    iterate 1 (refine zv_step (bX6_nodeRefusal 1) rfl rfl trivial ?_)
    refine zv_aald (bX6_nodeRefusal 1) rfl (Or.inl rfl) rfl (show vp_in (nI s) 8 from vp_in_nI (by omega) (by decide)) (show ([some 59, some 61, some 63, some 65, some 67, some 69, some 71, some 73] : List (Option Nat)).getD (nI s).toNatClampNeg none = some (59 + 2 * s) by rw [nI_clamp (by omega)]; exact dSs hs) ?_
    refine zv_getf (bX6_nodeRefusal 1) rfl (wS O P Y g hs) rfl ?_
    iterate 1 (refine zv_step (bX6_nodeRefusal 1) rfl rfl trivial ?_)
    refine zv_ifb (fun h1 => ?_) (fun h1 => ?_)
    · iterate 1 (refine zv_step (bX6_nodeRefusal 1) rfl rfl trivial ?_)
      refine zv_getf (bX6_nodeRefusal 1) rfl (rfl) rfl ?_
      iterate 1 (refine zv_step (bX6_nodeRefusal 1) rfl rfl trivial ?_)
      refine zv_aald (bX6_nodeRefusal 1) rfl (Or.inl rfl) rfl (show vp_in (nI s) 8 from vp_in_nI (by omega) (by decide)) (show ([some 59, some 61, some 63, some 65, some 67, some 69, some 71, some 73] : List (Option Nat)).getD (nI s).toNatClampNeg none = some (59 + 2 * s) by rw [nI_clamp (by omega)]; exact dSs hs) ?_
      refine zv_getf (bX6_nodeRefusal 1) rfl (wS O P Y g hs) rfl ?_
      iterate 2 (refine zv_step (bX6_nodeRefusal 1) rfl rfl trivial ?_)
      refine zv_ifb (fun h2 => ?_) (fun h2 => ?_)
      · iterate 1 (refine zv_step (bX6_nodeRefusal 1) rfl rfl trivial ?_)
        exact zv_iret (bX6_nodeRefusal 1) rfl (Or.inl rfl) (Nat.zero_le _) (Nat.zero_le _) ⟨rfl, _, rfl, fun q => absurd q (by decide)⟩
      · iterate 2 (refine zv_step (bX6_nodeRefusal 1) rfl rfl trivial ?_)
        exact zv_iret (bX6_nodeRefusal 1) rfl (Or.inl rfl) (Nat.zero_le _) (Nat.zero_le _) ⟨rfl, _, rfl, fun _ => ⟨s, hs, rfl⟩⟩
    · iterate 1 (refine zv_step (bX6_nodeRefusal 1) rfl rfl trivial ?_)
      exact zv_iret (bX6_nodeRefusal 1) rfl (Or.inl rfl) (Nat.zero_le _) (Nat.zero_le _) ⟨rfl, _, rfl, fun q => absurd q (by decide)⟩
  · iterate 1 (refine zv_step (bX6_nodeRefusal 1) rfl rfl trivial ?_)
    refine zv_iff (by decide) ?_
    iterate 1 (refine zv_step (bX6_nodeRefusal 1) rfl rfl trivial ?_)
    exact zv_iret (bX6_nodeRefusal 1) rfl (Or.inl rfl) (Nat.zero_le _) (Nat.zero_le _) ⟨rfl, _, rfl, fun q => absurd q (by decide)⟩
set_option maxHeartbeats 1000000 in
set_option maxRecDepth 20000 in
theorem cToss (O : Nat → Int32) (P : Nat → Nat → Int32) (Y : Nat → Nat → Int64) (g : Nat → zC) (x : Int32) : zK 2 zX6_toss [.ref 0, .int x] (wX O P Y g) (fun r w' => w' = wX O P Y g ∧ ∃ v : Int32, r = some (.int v)) := by
  refine zK_of qX6_toss (by decide +kernel) rfl ?_
  iterate 2 (refine zv_step (bX6_toss 2) rfl rfl trivial ?_)
  refine zv_V1 (bX6_toss 2) rfl rfl rfl rfl rfl rfl rfl ⟨rfl, rfl, rfl⟩ ⟨by decide, by decide⟩ ⟨Nat.zero_le _, Nat.zero_le _⟩ (cRefusal O P Y g _) ?_
  rintro _ _ ⟨rfl, v, rfl, hv⟩
  iterate 3 (refine zv_step (bX6_toss 2) rfl rfl trivial ?_)
  refine zv_ifb (fun h1 => ?_) (fun h1 => ?_)
  · obtain ⟨s, hs, rfl⟩ := hv h1
    iterate 1 (refine zv_step (bX6_toss 2) rfl rfl trivial ?_)
    refine zv_getf (bX6_toss 2) rfl (rfl) rfl ?_
    iterate 1 (refine zv_step (bX6_toss 2) rfl rfl trivial ?_)
    refine zv_aald (bX6_toss 2) rfl (Or.inl rfl) rfl (show vp_in (nI s) 8 from vp_in_nI (by omega) (by decide)) (show ([some 59, some 61, some 63, some 65, some 67, some 69, some 71, some 73] : List (Option Nat)).getD (nI s).toNatClampNeg none = some (59 + 2 * s) by rw [nI_clamp (by omega)]; exact dSs hs) ?_
    refine zv_getf (bX6_toss 2) rfl (wS O P Y g hs) rfl ?_
    iterate 2 (refine zv_step (bX6_toss 2) rfl rfl trivial ?_)
    refine zv_ifb (fun h2 => ?_) (fun h2 => ?_)
    · iterate 1 (refine zv_step (bX6_toss 2) rfl rfl trivial ?_)
      refine zv_getf (bX6_toss 2) rfl (rfl) rfl ?_
      iterate 1 (refine zv_step (bX6_toss 2) rfl rfl trivial ?_)
      refine zv_aald (bX6_toss 2) rfl (Or.inl rfl) rfl (show vp_in (nI s) 8 from vp_in_nI (by omega) (by decide)) (show ([some 59, some 61, some 63, some 65, some 67, some 69, some 71, some 73] : List (Option Nat)).getD (nI s).toNatClampNeg none = some (59 + 2 * s) by rw [nI_clamp (by omega)]; exact dSs hs) ?_
      refine zv_getf (bX6_toss 2) rfl (wS O P Y g hs) rfl ?_
      exact zv_iret (bX6_toss 2) rfl (Or.inl rfl) (Nat.zero_le _) (Nat.zero_le _) ⟨rfl, _, rfl⟩
    · iterate 2 (refine zv_step (bX6_toss 2) rfl rfl trivial ?_)
      exact zv_iret (bX6_toss 2) rfl (Or.inl rfl) (Nat.zero_le _) (Nat.zero_le _) ⟨rfl, _, rfl⟩
  · iterate 1 (refine zv_step (bX6_toss 2) rfl rfl trivial ?_)
    exact zv_iret (bX6_toss 2) rfl (Or.inl rfl) (Nat.zero_le _) (Nat.zero_le _) ⟨rfl, _, rfl⟩
end
section
set_option maxHeartbeats 1000000 in
set_option maxRecDepth 20000 in
theorem cMissing (w : zW) (x : Int32) : zK 0 zX6_orMissing [.int x] w (fun r w' => w' = w ∧ ∃ v : Int32, r = some (.int v)) := by
  refine zK_of qX6_orMissing (by decide +kernel) rfl ?_
  iterate 3 (refine zv_step (bX6_orMissing 0) rfl rfl trivial ?_)
  refine zv_ifb (fun h => ?_) (fun h => ?_)
  · iterate 1 (refine zv_step (bX6_orMissing 0) rfl rfl trivial ?_)
    exact zv_iret (bX6_orMissing 0) rfl (Or.inl rfl) (Nat.zero_le _) (Nat.zero_le _) ⟨rfl, _, rfl⟩
  · iterate 2 (refine zv_step (bX6_orMissing 0) rfl rfl trivial ?_)
    exact zv_iret (bX6_orMissing 0) rfl (Or.inl rfl) (Nat.zero_le _) (Nat.zero_le _) ⟨rfl, _, rfl⟩
set_option maxHeartbeats 1000000 in
set_option maxRecDepth 20000 in
theorem cLookT (O : Nat → Int32) (P : Nat → Nat → Int32) (Y : Nat → Nat → Int64) (g : Nat → zC) {n x : Int32} (hv : vp_in n 120) {n0 : Nat} : zV (zMo 1 zX6_look) false n0 0 0 13 [(0, .ref 0), (1, .int n), (2, .int x)] [] (wX O P Y g) (fun r w' => w' = wX O P Y g ∧ ∃ v : Int32, r = some (.int v)) := by
  refine zv_step (bX6_look 1) rfl rfl trivial ?_
  by_cases hd : x.toInt < 0 ∨ 6 < x.toInt
  · refine zv_step (bX6_look 1) rfl rfl (by decide) ?_
    rw [if_pos hd]
    iterate 1 (refine zv_step (bX6_look 1) rfl rfl trivial ?_)
    exact zv_iret (bX6_look 1) rfl (Or.inl rfl) (Nat.zero_le _) (Nat.zero_le _) ⟨rfl, _, rfl⟩
  · obtain ⟨c, hc, rfl⟩ : ∃ c : Nat, c < 7 ∧ x = nI c := by
      refine ⟨x.toInt.toNat, by omega, ?_⟩
      rw [← Int32.toInt_inj, nI_toInt (by omega)]
      omega
    match c, hc with
    | 0, _ =>
      refine zv_step (bX6_look 1) rfl rfl (by decide) ?_
      iterate 4 (refine zv_step (bX6_look 1) rfl rfl trivial ?_)
      refine zv_step (bX6_look 1) rfl rfl (hv) ?_
      exact zv_iret (bX6_look 1) rfl (Or.inl rfl) (Nat.zero_le _) (Nat.zero_le _) ⟨rfl, _, rfl⟩
    | 1, _ =>
      refine zv_step (bX6_look 1) rfl rfl (by decide) ?_
      iterate 4 (refine zv_step (bX6_look 1) rfl rfl trivial ?_)
      refine zv_step (bX6_look 1) rfl rfl (hv) ?_
      refine zv_S1 (bX6_look 1) rfl rfl rfl rfl ⟨rfl, rfl, rfl⟩ ⟨by decide, by decide⟩ ⟨Nat.zero_le _, Nat.zero_le _⟩ (cMissing _ _) ?_
      rintro _ _ ⟨rfl, v, rfl⟩
      exact zv_iret (bX6_look 1) rfl (Or.inl rfl) (Nat.zero_le _) (Nat.zero_le _) ⟨rfl, _, rfl⟩
    | 2, _ =>
      refine zv_step (bX6_look 1) rfl rfl (by decide) ?_
      iterate 4 (refine zv_step (bX6_look 1) rfl rfl trivial ?_)
      refine zv_step (bX6_look 1) rfl rfl (hv) ?_
      refine zv_S1 (bX6_look 1) rfl rfl rfl rfl ⟨rfl, rfl, rfl⟩ ⟨by decide, by decide⟩ ⟨Nat.zero_le _, Nat.zero_le _⟩ (cMissing _ _) ?_
      rintro _ _ ⟨rfl, v, rfl⟩
      exact zv_iret (bX6_look 1) rfl (Or.inl rfl) (Nat.zero_le _) (Nat.zero_le _) ⟨rfl, _, rfl⟩
    | 3, _ =>
      refine zv_step (bX6_look 1) rfl rfl (by decide) ?_
      iterate 4 (refine zv_step (bX6_look 1) rfl rfl trivial ?_)
      refine zv_step (bX6_look 1) rfl rfl (hv) ?_
      refine zv_S1 (bX6_look 1) rfl rfl rfl rfl ⟨rfl, rfl, rfl⟩ ⟨by decide, by decide⟩ ⟨Nat.zero_le _, Nat.zero_le _⟩ (cMissing _ _) ?_
      rintro _ _ ⟨rfl, v, rfl⟩
      exact zv_iret (bX6_look 1) rfl (Or.inl rfl) (Nat.zero_le _) (Nat.zero_le _) ⟨rfl, _, rfl⟩
    | 4, _ =>
      refine zv_step (bX6_look 1) rfl rfl (by decide) ?_
      iterate 4 (refine zv_step (bX6_look 1) rfl rfl trivial ?_)
      refine zv_step (bX6_look 1) rfl rfl (hv) ?_
      exact zv_iret (bX6_look 1) rfl (Or.inl rfl) (Nat.zero_le _) (Nat.zero_le _) ⟨rfl, _, rfl⟩
    | 5, _ =>
      refine zv_step (bX6_look 1) rfl rfl (by decide) ?_
      iterate 4 (refine zv_step (bX6_look 1) rfl rfl trivial ?_)
      refine zv_step (bX6_look 1) rfl rfl (hv) ?_
      exact zv_iret (bX6_look 1) rfl (Or.inl rfl) (Nat.zero_le _) (Nat.zero_le _) ⟨rfl, _, rfl⟩
    | 6, _ =>
      refine zv_step (bX6_look 1) rfl rfl (by decide) ?_
      iterate 5 (refine zv_step (bX6_look 1) rfl rfl trivial ?_)
      refine zv_V2 (bX6_look 1) rfl rfl rfl rfl rfl rfl rfl ⟨rfl, rfl, rfl⟩ ⟨by decide, by decide⟩ ⟨Nat.zero_le _, Nat.zero_le _⟩ (pRight1 O P Y g _ hv) ?_
      rintro _ _ ⟨rfl, ⟨h5, rfl⟩ | ⟨h5, rfl⟩⟩
      · iterate 1 (refine zv_step (bX6_look 1) rfl rfl trivial ?_)
        refine zv_iff (by decide) ?_
        iterate 2 (refine zv_step (bX6_look 1) rfl rfl trivial ?_)
        exact zv_iret (bX6_look 1) rfl (Or.inl rfl) (Nat.zero_le _) (Nat.zero_le _) ⟨rfl, _, rfl⟩
      · iterate 1 (refine zv_step (bX6_look 1) rfl rfl trivial ?_)
        refine zv_ift (by decide) ?_
        iterate 1 (refine zv_step (bX6_look 1) rfl rfl trivial ?_)
        exact zv_iret (bX6_look 1) rfl (Or.inl rfl) (Nat.zero_le _) (Nat.zero_le _) ⟨rfl, _, rfl⟩
    | c + 7, h => exact absurd h (by omega)
set_option maxHeartbeats 1000000 in
set_option maxRecDepth 20000 in
theorem cLook (O : Nat → Int32) (P : Nat → Nat → Int32) (Y : Nat → Nat → Int64) (g : Nat → zC) (hu : (O 1).toInt ≤ 120) (n x : Int32) : zK 1 zX6_look [.ref 0, .int n, .int x] (wX O P Y g) (fun r w' => w' = wX O P Y g ∧ ∃ v : Int32, r = some (.int v)) := by
  refine zK_of qX6_look (by decide +kernel) rfl ?_
  iterate 3 (refine zv_step (bX6_look 1) rfl rfl trivial ?_)
  refine zv_V1 (bX6_look 1) rfl rfl rfl rfl rfl rfl rfl ⟨rfl, rfl, rfl⟩ ⟨by decide, by decide⟩ ⟨Nat.zero_le _, Nat.zero_le _⟩ (pHas1 O P Y g _) ?_
  rintro _ _ ⟨rfl, ⟨hh, rfl⟩ | ⟨hh, rfl⟩⟩
  · iterate 1 (refine zv_step (bX6_look 1) rfl rfl trivial ?_)
    refine zv_ift (by decide) ?_
    exact cLookT O P Y g (vp_in_iff.mpr ⟨hh.1, Int.lt_of_lt_of_le hh.2 hu⟩)
  · iterate 1 (refine zv_step (bX6_look 1) rfl rfl trivial ?_)
    refine zv_iff (by decide) ?_
    iterate 1 (refine zv_step (bX6_look 1) rfl rfl trivial ?_)
    exact zv_iret (bX6_look 1) rfl (Or.inl rfl) (Nat.zero_le _) (Nat.zero_le _) ⟨rfl, _, rfl⟩
end
section
set_option maxHeartbeats 1000000 in
set_option maxRecDepth 20000 in
theorem cWeighT (O : Nat → Int32) (P : Nat → Nat → Int32) (Y : Nat → Nat → Int64) (g : Nat → zC) {s : Nat} (hs : s < 8) (a : Int32) {n0 : Nat} : zV (zMo 0 zX3_weighNode) false n0 0 0 12 [(1, .int a), (0, .ref (59 + 2 * s))] [.int (O (22 + 10 * s))] (wX O P Y g) (fun r w' => w' = wX O P Y g ∧ ∃ v : Int32, r = some (.int v)) := by
  by_cases hd : (O (22 + 10 * s)).toInt < 1 ∨ 9 < (O (22 + 10 * s)).toInt
  · refine zv_step (bX3_weighNode 0) rfl rfl (by decide) ?_
    rw [if_pos hd]
    iterate 1 (refine zv_step (bX3_weighNode 0) rfl rfl trivial ?_)
    exact zv_iret (bX3_weighNode 0) rfl (Or.inl rfl) (Nat.zero_le _) (Nat.zero_le _) ⟨rfl, _, rfl⟩
  · obtain ⟨c, hc, e⟩ : ∃ c : Nat, c < 9 ∧ O (22 + 10 * s) = nI (c + 1) := by
      refine ⟨(O (22 + 10 * s)).toInt.toNat - 1, by omega, ?_⟩
      rw [← Int32.toInt_inj, nI_toInt (by omega)]
      omega
    rw [e]
    match c, hc with
    | 0, _ =>
      refine zv_step (bX3_weighNode 0) rfl rfl (by decide) ?_
      iterate 2 (refine zv_step (bX3_weighNode 0) rfl rfl trivial ?_)
      refine zv_getf (bX3_weighNode 0) rfl (wS O P Y g hs) rfl ?_
      iterate 1 (refine zv_step (bX3_weighNode 0) rfl rfl trivial ?_)
      exact zv_iret (bX3_weighNode 0) rfl (Or.inl rfl) (Nat.zero_le _) (Nat.zero_le _) ⟨rfl, _, rfl⟩
    | 1, _ =>
      refine zv_step (bX3_weighNode 0) rfl rfl (by decide) ?_
      iterate 1 (refine zv_step (bX3_weighNode 0) rfl rfl trivial ?_)
      exact zv_iret (bX3_weighNode 0) rfl (Or.inl rfl) (Nat.zero_le _) (Nat.zero_le _) ⟨rfl, _, rfl⟩
    | 2, _ =>
      refine zv_step (bX3_weighNode 0) rfl rfl (by decide) ?_
      iterate 1 (refine zv_step (bX3_weighNode 0) rfl rfl trivial ?_)
      exact zv_iret (bX3_weighNode 0) rfl (Or.inl rfl) (Nat.zero_le _) (Nat.zero_le _) ⟨rfl, _, rfl⟩
    | 3, _ =>
      refine zv_step (bX3_weighNode 0) rfl rfl (by decide) ?_
      iterate 1 (refine zv_step (bX3_weighNode 0) rfl rfl trivial ?_)
      exact zv_iret (bX3_weighNode 0) rfl (Or.inl rfl) (Nat.zero_le _) (Nat.zero_le _) ⟨rfl, _, rfl⟩
    | 4, _ =>
      refine zv_step (bX3_weighNode 0) rfl rfl (by decide) ?_
      iterate 3 (refine zv_step (bX3_weighNode 0) rfl rfl trivial ?_)
      exact zv_iret (bX3_weighNode 0) rfl (Or.inl rfl) (Nat.zero_le _) (Nat.zero_le _) ⟨rfl, _, rfl⟩
    | 5, _ =>
      refine zv_step (bX3_weighNode 0) rfl rfl (by decide) ?_
      iterate 3 (refine zv_step (bX3_weighNode 0) rfl rfl trivial ?_)
      exact zv_iret (bX3_weighNode 0) rfl (Or.inl rfl) (Nat.zero_le _) (Nat.zero_le _) ⟨rfl, _, rfl⟩
    | 6, _ =>
      refine zv_step (bX3_weighNode 0) rfl rfl (by decide) ?_
      iterate 1 (refine zv_step (bX3_weighNode 0) rfl rfl trivial ?_)
      exact zv_iret (bX3_weighNode 0) rfl (Or.inl rfl) (Nat.zero_le _) (Nat.zero_le _) ⟨rfl, _, rfl⟩
    | 7, _ =>
      refine zv_step (bX3_weighNode 0) rfl rfl (by decide) ?_
      iterate 3 (refine zv_step (bX3_weighNode 0) rfl rfl trivial ?_)
      exact zv_iret (bX3_weighNode 0) rfl (Or.inl rfl) (Nat.zero_le _) (Nat.zero_le _) ⟨rfl, _, rfl⟩
    | 8, _ =>
      refine zv_step (bX3_weighNode 0) rfl rfl (by decide) ?_
      iterate 3 (refine zv_step (bX3_weighNode 0) rfl rfl trivial ?_)
      exact zv_iret (bX3_weighNode 0) rfl (Or.inl rfl) (Nat.zero_le _) (Nat.zero_le _) ⟨rfl, _, rfl⟩
    | c + 9, h => exact absurd h (by omega)
set_option maxHeartbeats 1000000 in
set_option maxRecDepth 20000 in
theorem cWeigh (O : Nat → Int32) (P : Nat → Nat → Int32) (Y : Nat → Nat → Int64) (g : Nat → zC) {s : Nat} (hs : s < 8) : zK 0 zX3_weighNode [.ref (59 + 2 * s)] (wX O P Y g) (fun r w' => w' = wX O P Y g ∧ ∃ v : Int32, r = some (.int v)) := by
  refine zK_of qX3_weighNode (by decide +kernel) rfl ?_
  iterate 1 (refine zv_step (bX3_weighNode 0) rfl rfl trivial ?_)
  refine zv_getf (bX3_weighNode 0) rfl (wS O P Y g hs) rfl ?_
  iterate 4 (refine zv_step (bX3_weighNode 0) rfl rfl trivial ?_)
  refine zv_getf (bX3_weighNode 0) rfl (wS O P Y g hs) rfl ?_
  exact cWeighT O P Y g hs _
set_option maxHeartbeats 1000000 in
set_option maxRecDepth 20000 in
theorem cWeight (O : Nat → Int32) (P : Nat → Nat → Int32) (Y : Nat → Nat → Int64) (g : Nat → zC) (x : Int32) : zK 2 zX6_weight [.ref 0, .int x] (wX O P Y g) (fun r w' => w' = wX O P Y g ∧ ∃ v : Int32, r = some (.int v)) := by
  refine zK_of qX6_weight (by decide +kernel) rfl ?_
  iterate 2 (refine zv_step (bX6_weight 2) rfl rfl trivial ?_)
  refine zv_V1 (bX6_weight 2) rfl rfl rfl rfl rfl rfl rfl ⟨rfl, rfl, rfl⟩ ⟨by decide, by decide⟩ ⟨Nat.zero_le _, Nat.zero_le _⟩ (cRefusal O P Y g _) ?_
  rintro _ _ ⟨rfl, v, rfl, hv⟩
  iterate 3 (refine zv_step (bX6_weight 2) rfl rfl trivial ?_)
  refine zv_ifb (fun h1 => ?_) (fun h1 => ?_)
  · obtain ⟨s, hs, rfl⟩ := hv h1
    iterate 1 (refine zv_step (bX6_weight 2) rfl rfl trivial ?_)
    refine zv_getf (bX6_weight 2) rfl (rfl) rfl ?_
    iterate 1 (refine zv_step (bX6_weight 2) rfl rfl trivial ?_)
    refine zv_aald (bX6_weight 2) rfl (Or.inl rfl) rfl (show vp_in (nI s) 8 from vp_in_nI (by omega) (by decide)) (show ([some 59, some 61, some 63, some 65, some 67, some 69, some 71, some 73] : List (Option Nat)).getD (nI s).toNatClampNeg none = some (59 + 2 * s) by rw [nI_clamp (by omega)]; exact dSs hs) ?_
    refine zv_V0 (bX6_weight 2) rfl rfl rfl (wS O P Y g hs) rfl rfl rfl ⟨rfl, rfl, rfl⟩ ⟨by decide, by decide⟩ ⟨Nat.zero_le _, Nat.zero_le _⟩ (cWeigh O P Y g hs) ?_
    rintro _ _ ⟨rfl, v2, rfl⟩
    exact zv_iret (bX6_weight 2) rfl (Or.inl rfl) (Nat.zero_le _) (Nat.zero_le _) ⟨rfl, _, rfl⟩
  · iterate 2 (refine zv_step (bX6_weight 2) rfl rfl trivial ?_)
    exact zv_iret (bX6_weight 2) rfl (Or.inl rfl) (Nat.zero_le _) (Nat.zero_le _) ⟨rfl, _, rfl⟩
end
section
section ZAL
variable {M : zM} {al : Bool} {n0 kc ks pc nxt a b : Nat} {c0 : Int} {l : zL} {st rest : List Value} {w : zW} {Q : Option Value → zW → Prop} {tb : List zE}
theorem zv_alen (ok : zTb M tb) (hlook : zlook tb pc = some (.arraylength, nxt, a, b, c0)) {k n : Nat} {f : Nat → Int32} (hw : w[k]? = some (zI 0 n f)) (kk : zV M al n0 kc ks nxt l (.int (Int32.ofNat n) :: st) w Q) : zV M al n0 kc ks pc l (.ref k :: st) w Q := by
  refine zv_step ok hlook (P := True) (pc' := nxt) (l' := l) (st' := .int (Int32.ofNat n) :: st) (w' := w) ?_ trivial kk
  simp only [zstep, hw]
end ZAL
set_option maxHeartbeats 1000000 in
set_option maxRecDepth 20000 in
theorem pLayF (O : Nat → Int32) (Y : Nat → Nat → Int64) (g : Nat → zC) (hu : (O 1).toInt ≤ 120) {s : Nat} (hs : s < 8) : ∀ (f : Nat) (P : Nat → Nat → Int32) (n : Int32) (q : Nat) (y z : Int32), y = nI q → z = nI f → q ≤ 60 → f < 100 → zK (f + 1) zX2_layKindsFrom [.ref 1, .int n, .ref (60 + 2 * s), .int y, .int z] (wX O P Y g) (fun r w' => ∃ (q' : Nat) (P' : Nat → Nat → Int32), r = some (.int (nI q')) ∧ q' ≤ 60 ∧ w' = wX O P' Y g ∧ ∀ j, j ≠ 60 + 2 * s → P' j = P j) := by
  intro f
  induction f with
  | zero =>
    intro P n q y z ey ez hq hf
    subst ey ez
    refine zK_of qX2_layKindsFrom (by decide +kernel) rfl ?_
    iterate 2 (refine zv_step (bX2_layKindsFrom (0 + 1)) rfl rfl trivial ?_)
    refine zv_V1 (bX2_layKindsFrom (0 + 1)) rfl rfl rfl rfl rfl rfl rfl ⟨rfl, rfl, rfl⟩ ⟨by decide, by decide⟩ ⟨Nat.zero_le _, Nat.zero_le _⟩ (pHas1 O P Y g _) ?_
    rintro _ _ ⟨rfl, ⟨hh, rfl⟩ | ⟨hh, rfl⟩⟩
    · iterate 1 (refine zv_step (bX2_layKindsFrom (0 + 1)) rfl rfl trivial ?_)
      refine zv_iff (by decide) ?_
      iterate 2 (refine zv_step (bX2_layKindsFrom (0 + 1)) rfl rfl trivial ?_)
      refine zv_alen (bX2_layKindsFrom (0 + 1)) rfl (wSr O P Y g hs) ?_
      iterate 1 (refine zv_step (bX2_layKindsFrom (0 + 1)) rfl rfl trivial ?_)
      refine zv_ifb (fun h1 => ?_) (fun h1 => ?_)
      · iterate 1 (refine zv_step (bX2_layKindsFrom (0 + 1)) rfl rfl trivial ?_)
        exact zv_iret (bX2_layKindsFrom (0 + 1)) rfl (Or.inl rfl) (Nat.zero_le _) (Nat.zero_le _) ⟨q, P, rfl, hq, rfl, fun _ _ => rfl⟩
      · iterate 2 (refine zv_step (bX2_layKindsFrom (0 + 1)) rfl rfl trivial ?_)
        refine zv_iff (by decide) ?_
        iterate 1 (refine zv_step (bX2_layKindsFrom (0 + 1)) rfl rfl trivial ?_)
        exact zv_iret (bX2_layKindsFrom (0 + 1)) rfl (Or.inl rfl) (Nat.zero_le _) (Nat.zero_le _) ⟨q, P, rfl, hq, rfl, fun _ _ => rfl⟩
    · iterate 1 (refine zv_step (bX2_layKindsFrom (0 + 1)) rfl rfl trivial ?_)
      refine zv_ift (by decide) ?_
      iterate 1 (refine zv_step (bX2_layKindsFrom (0 + 1)) rfl rfl trivial ?_)
      exact zv_iret (bX2_layKindsFrom (0 + 1)) rfl (Or.inl rfl) (Nat.zero_le _) (Nat.zero_le _) ⟨q, P, rfl, hq, rfl, fun _ _ => rfl⟩
  | succ f ih0 =>
    intro P n q y z ey ez hq hf
    subst ey ez
    have ih : ∀ (P : Nat → Nat → Int32) (n : Int32) (q : Nat) (y z : Int32), y = nI q → z = nI f → q ≤ 60 → zK (f + 1) zX2_layKindsFrom [.ref 1, .int n, .ref (60 + 2 * s), .int y, .int z] (wX O P Y g) (fun r w' => ∃ (q' : Nat) (P' : Nat → Nat → Int32), r = some (.int (nI q')) ∧ q' ≤ 60 ∧ w' = wX O P' Y g ∧ ∀ j, j ≠ 60 + 2 * s → P' j = P j) := fun P n q y z a b c => ih0 P n q y z a b c (by omega)
    refine zK_of qX2_layKindsFrom (by decide +kernel) rfl ?_
    iterate 2 (refine zv_step (bX2_layKindsFrom (f + 1 + 1)) rfl rfl trivial ?_)
    refine zv_V1 (bX2_layKindsFrom (f + 1 + 1)) rfl rfl rfl rfl rfl rfl rfl ⟨rfl, rfl, rfl⟩ ⟨by show 0 + 1 ≤ f + 1 + 1; omega, by show 8 + (2 + 11) + 64 * (0) ≤ 64 * (f + 1 + 1); omega⟩ ⟨Nat.zero_le _, Nat.zero_le _⟩ (pHas1 O P Y g _) ?_
    rintro _ _ ⟨rfl, ⟨hh, rfl⟩ | ⟨hh, rfl⟩⟩
    · iterate 1 (refine zv_step (bX2_layKindsFrom (f + 1 + 1)) rfl rfl trivial ?_)
      refine zv_iff (by decide) ?_
      iterate 2 (refine zv_step (bX2_layKindsFrom (f + 1 + 1)) rfl rfl trivial ?_)
      refine zv_alen (bX2_layKindsFrom (f + 1 + 1)) rfl (wSr O P Y g hs) ?_
      iterate 1 (refine zv_step (bX2_layKindsFrom (f + 1 + 1)) rfl rfl trivial ?_)
      refine zv_ifb (fun h1 => ?_) (fun h1 => ?_)
      · iterate 1 (refine zv_step (bX2_layKindsFrom (f + 1 + 1)) rfl rfl trivial ?_)
        exact zv_iret (bX2_layKindsFrom (f + 1 + 1)) rfl (Or.inl rfl) (Nat.zero_le _) (Nat.zero_le _) ⟨q, P, rfl, hq, rfl, fun _ _ => rfl⟩
      · have h1 : ¬ Int32.ofNat 60 ≤ nI q := h1
        rw [show Int32.ofNat 60 = nI 60 from rfl, nI_leI (by omega) (by omega)] at h1
        iterate 2 (refine zv_step (bX2_layKindsFrom (f + 1 + 1)) rfl rfl trivial ?_)
        refine zv_ifb (fun h2 => ?_) (fun h2 => ?_)
        · iterate 5 (refine zv_step (bX2_layKindsFrom (f + 1 + 1)) rfl rfl trivial ?_)
          refine zv_step (bX2_layKindsFrom (f + 1 + 1)) rfl rfl (vp_in_iff.mpr ⟨hh.1, Int.lt_of_lt_of_le hh.2 hu⟩) ?_
          refine zv_iast (bX2_layKindsFrom (f + 1 + 1)) rfl (wSr O P Y g hs) (show vp_in (nI q) 60 from vp_in_nI (by omega) (by decide)) ?_
          refine zv_world (wSrset O P Y g _ hs) ?_
          iterate 4 (refine zv_step (bX2_layKindsFrom (f + 1 + 1)) rfl rfl trivial ?_)
          refine zv_step (bX2_layKindsFrom (f + 1 + 1)) rfl rfl (vp_in_iff.mpr ⟨hh.1, Int.lt_of_lt_of_le hh.2 hu⟩) ?_
          iterate 7 (refine zv_step (bX2_layKindsFrom (f + 1 + 1)) rfl rfl trivial ?_)
          refine zv_V4 (bX2_layKindsFrom (f + 1 + 1)) rfl rfl rfl rfl rfl rfl rfl ⟨rfl, rfl, rfl⟩ ⟨by show f + 1 + 1 ≤ f + 1 + 1; omega, by show 8 + (6 + 11) + 64 * (f + 1) ≤ 64 * (f + 1 + 1); omega⟩ ⟨Nat.zero_le _, Nat.zero_le _⟩ (ih _ _ (q + 1) _ _ (nI_1 q) (sub_1 (by omega)) (by omega)) ?_
          rintro _ _ ⟨q1, P1, rfl, hq1, rfl, hP1⟩
          iterate 5 (refine zv_step (bX2_layKindsFrom (f + 1 + 1)) rfl rfl trivial ?_)
          refine zv_step (bX2_layKindsFrom (f + 1 + 1)) rfl rfl (vp_in_iff.mpr ⟨hh.1, Int.lt_of_lt_of_le hh.2 hu⟩) ?_
          iterate 5 (refine zv_step (bX2_layKindsFrom (f + 1 + 1)) rfl rfl trivial ?_)
          refine zv_V4 (bX2_layKindsFrom (f + 1 + 1)) rfl rfl rfl rfl rfl rfl rfl ⟨rfl, rfl, rfl⟩ ⟨by show f + 1 + 1 ≤ f + 1 + 1; omega, by show 8 + (6 + 11) + 64 * (f + 1) ≤ 64 * (f + 1 + 1); omega⟩ ⟨Nat.zero_le _, Nat.zero_le _⟩ (ih _ _ q1 _ _ rfl (sub_1 (by omega)) hq1) ?_
          rintro _ _ ⟨q2, P2, rfl, hq2, rfl, hP2⟩
          exact zv_iret (bX2_layKindsFrom (f + 1 + 1)) rfl (Or.inl rfl) (Nat.zero_le _) (Nat.zero_le _) ⟨q2, P2, rfl, hq2, rfl, fun j hj => (hP2 j hj).trans ((hP1 j hj).trans (updA_ne _ _ hj))⟩
        · iterate 1 (refine zv_step (bX2_layKindsFrom (f + 1 + 1)) rfl rfl trivial ?_)
          exact zv_iret (bX2_layKindsFrom (f + 1 + 1)) rfl (Or.inl rfl) (Nat.zero_le _) (Nat.zero_le _) ⟨q, P, rfl, hq, rfl, fun _ _ => rfl⟩
    · iterate 1 (refine zv_step (bX2_layKindsFrom (f + 1 + 1)) rfl rfl trivial ?_)
      refine zv_ift (by decide) ?_
      iterate 1 (refine zv_step (bX2_layKindsFrom (f + 1 + 1)) rfl rfl trivial ?_)
      exact zv_iret (bX2_layKindsFrom (f + 1 + 1)) rfl (Or.inl rfl) (Nat.zero_le _) (Nat.zero_le _) ⟨q, P, rfl, hq, rfl, fun _ _ => rfl⟩
set_option maxHeartbeats 1000000 in
set_option maxRecDepth 20000 in
theorem pLay (O : Nat → Int32) (P : Nat → Nat → Int32) (Y : Nat → Nat → Int64) (g : Nat → zC) (hu : (O 1).toInt ≤ 120) {s : Nat} (hs : s < 8) (n : Int32) : zK 42 zX2_layKinds [.ref 1, .int n, .ref (60 + 2 * s)] (wX O P Y g) (fun r w' => r = none ∧ ∃ P' : Nat → Nat → Int32, w' = wX O P' Y g ∧ ∀ j, j ≠ 60 + 2 * s → P' j = P j) := by
  refine zK_of qX2_layKinds (by decide +kernel) rfl ?_
  iterate 5 (refine zv_step (bX2_layKinds 42) rfl rfl trivial ?_)
  refine zv_V4 (bX2_layKinds 42) rfl rfl rfl rfl rfl rfl rfl ⟨rfl, rfl, rfl⟩ ⟨by decide, by decide⟩ ⟨Nat.zero_le _, Nat.zero_le _⟩ (pLayF O Y g hu hs 40 P _ 0 _ _ rfl rfl (by omega) (by omega)) ?_
  rintro _ _ ⟨q1, P1, rfl, hq1, rfl, hP1⟩
  iterate 1 (refine zv_step (bX2_layKinds 42) rfl rfl trivial ?_)
  exact zv_ret (bX2_layKinds 42) rfl rfl (Nat.zero_le _) (Nat.zero_le _) ⟨rfl, P1, rfl, hP1⟩
end
section
/-- what a call may change of one shelf -/
def shW (O : Nat → Int32) (P : Nat → Nat → Int32) (s : Nat) (O' : Nat → Int32) (P' : Nat → Nat → Int32) : Prop := (∀ j, ¬ (20 + 10 * s ≤ j ∧ j ≤ 24 + 10 * s) → O' j = O j) ∧ (∀ i, i ≠ 60 + 2 * s → P' i = P i) ∧ (O' (24 + 10 * s) = O (24 + 10 * s) ∨ ∃ m : Nat, m ≤ 60 ∧ O' (24 + 10 * s) = nI m)
set_option maxHeartbeats 1000000 in
set_option maxRecDepth 20000 in
theorem cKeepNode (O : Nat → Int32) (P : Nat → Nat → Int32) (Y : Nat → Nat → Int64) (g : Nat → zC) {u : Nat} (hu0 : u ≤ 120) (h1 : O 1 = nI u) (hp : pgI u (P 2) (P 4) (P 5) (P 6)) {s : Nat} (hs : s < 8) (k n : Int32) : zK 43 zX6_keepNode [.ref 0, .ref (59 + 2 * s), .int k, .int n] (wX O P Y g) (fun r w' => ∃ (O' : Nat → Int32) (P' : Nat → Nat → Int32) (R : Int32), r = some (.int R) ∧ w' = wX O' P' Y g ∧ shW O P s O' P') := by
  refine zK_of qX6_keepNode (by decide +kernel) rfl ?_
  iterate 1 (refine zv_step (bX6_keepNode 43) rfl rfl trivial ?_)
  refine zv_getf (bX6_keepNode 43) rfl (rfl) rfl ?_
  iterate 1 (refine zv_step (bX6_keepNode 43) rfl rfl trivial ?_)
  refine zv_V1 (bX6_keepNode 43) rfl rfl rfl rfl rfl rfl rfl ⟨rfl, rfl, rfl⟩ ⟨by decide, by decide⟩ ⟨Nat.zero_le _, Nat.zero_le _⟩ (pHas1 O P Y g _) ?_
  rintro _ _ ⟨rfl, ⟨hh, rfl⟩ | ⟨hh, rfl⟩⟩
  · iterate 1 (refine zv_step (bX6_keepNode 43) rfl rfl trivial ?_)
    refine zv_ift (by decide) ?_
    have hu : (O 1).toInt ≤ 120 := by rw [h1, nI_toInt (by omega)]; omega
    have hv : vp_in n 120 := vp_in_iff.mpr ⟨hh.1, Int.lt_of_lt_of_le hh.2 hu⟩
    obtain ⟨m, hm, em⟩ : ∃ m : Nat, m ≤ 60 ∧ P 6 n.toNatClampNeg = nI m := by
      obtain ⟨j, hj, rfl⟩ := has_j hu0 h1 hh
      obtain ⟨-, -, -, z, hz, -, z2, -⟩ := hp j hj
      exact ⟨z, by omega, by rw [nI_clamp (by omega)]; exact hz⟩
    iterate 3 (refine zv_step (bX6_keepNode 43) rfl rfl trivial ?_)
    refine zv_ifb (fun h2 => ?_) (fun h2 => ?_)
    · iterate 3 (refine zv_step (bX6_keepNode 43) rfl rfl trivial ?_)
      refine zv_getf (bX6_keepNode 43) rfl (rfl) rfl ?_
      refine zv_getf (bX6_keepNode 43) rfl (rfl) rfl ?_
      iterate 1 (refine zv_step (bX6_keepNode 43) rfl rfl trivial ?_)
      refine zv_step (bX6_keepNode 43) rfl rfl (hv) ?_
      refine zv_V2 (bX6_keepNode 43) rfl rfl rfl (wS O P Y g hs) rfl rfl rfl ⟨rfl, rfl, rfl⟩ ⟨by decide, by decide⟩ ⟨Nat.zero_le _, Nat.zero_le _⟩ (hNoughts O P Y g hs _ _) ?_
      rintro _ _ ⟨rfl, P1, rfl, hP1⟩
      iterate 1 (refine zv_step (bX6_keepNode 43) rfl rfl trivial ?_)
      refine zv_getf (bX6_keepNode 43) rfl (rfl) rfl ?_
      iterate 2 (refine zv_step (bX6_keepNode 43) rfl rfl trivial ?_)
      refine zv_getf (bX6_keepNode 43) rfl (wS (upd (upd O (20 + 10 * s) (Int32.ofInt 4)) (24 + 10 * s) (P 6 n.toNatClampNeg)) P1 Y g hs) rfl ?_
      refine zv_V2 (bX6_keepNode 43) rfl rfl rfl rfl rfl rfl rfl ⟨rfl, rfl, rfl⟩ ⟨by decide, by decide⟩ ⟨Nat.zero_le _, Nat.zero_le _⟩ (pLay (upd (upd O (20 + 10 * s) (Int32.ofInt 4)) (24 + 10 * s) (P 6 n.toNatClampNeg)) P1 Y g (by rw [upd_ne _ _ (by omega), upd_ne _ _ (by omega)]; exact hu) hs _) ?_
      rintro _ _ ⟨rfl, P2, rfl, hP2⟩
      iterate 1 (refine zv_step (bX6_keepNode 43) rfl rfl trivial ?_)
      exact zv_iret (bX6_keepNode 43) rfl (Or.inl rfl) (Nat.zero_le _) (Nat.zero_le _) ⟨(upd (upd O (20 + 10 * s) (Int32.ofInt 4)) (24 + 10 * s) (P 6 n.toNatClampNeg)), P2, _, rfl, rfl, fun j hj => by rw [upd_ne _ _ (by omega), upd_ne _ _ (by omega)], fun i hi => (hP2 i hi).trans (hP1 i hi), Or.inr ⟨m, hm, by rw [upd_self]; exact em⟩⟩
    · iterate 2 (refine zv_step (bX6_keepNode 43) rfl rfl trivial ?_)
      refine zv_getf (bX6_keepNode 43) rfl (rfl) rfl ?_
      refine zv_getf (bX6_keepNode 43) rfl (rfl) rfl ?_
      iterate 1 (refine zv_step (bX6_keepNode 43) rfl rfl trivial ?_)
      refine zv_step (bX6_keepNode 43) rfl rfl (hv) ?_
      iterate 1 (refine zv_step (bX6_keepNode 43) rfl rfl trivial ?_)
      refine zv_getf (bX6_keepNode 43) rfl (rfl) rfl ?_
      refine zv_getf (bX6_keepNode 43) rfl (rfl) rfl ?_
      iterate 1 (refine zv_step (bX6_keepNode 43) rfl rfl trivial ?_)
      refine zv_step (bX6_keepNode 43) rfl rfl (hv) ?_
      iterate 1 (refine zv_step (bX6_keepNode 43) rfl rfl trivial ?_)
      refine zv_getf (bX6_keepNode 43) rfl (rfl) rfl ?_
      refine zv_getf (bX6_keepNode 43) rfl (rfl) rfl ?_
      iterate 1 (refine zv_step (bX6_keepNode 43) rfl rfl trivial ?_)
      refine zv_step (bX6_keepNode 43) rfl rfl (hv) ?_
      refine zv_V3 (bX6_keepNode 43) rfl rfl rfl (wS O P Y g hs) rfl rfl rfl ⟨rfl, rfl, rfl⟩ ⟨by decide, by decide⟩ ⟨Nat.zero_le _, Nat.zero_le _⟩ (hHoldNode O P Y g hs _ _ _) ?_
      rintro _ _ ⟨rfl, rfl⟩
      iterate 2 (refine zv_step (bX6_keepNode 43) rfl rfl trivial ?_)
      exact zv_iret (bX6_keepNode 43) rfl (Or.inl rfl) (Nat.zero_le _) (Nat.zero_le _) ⟨_, P, _, rfl, rfl, fun j hj => by rw [upd_ne _ _ (by omega), upd_ne _ _ (by omega), upd_ne _ _ (by omega), upd_ne _ _ (by omega)], fun _ _ => rfl, Or.inl (by rw [upd_ne _ _ (by omega), upd_ne _ _ (by omega), upd_ne _ _ (by omega), upd_ne _ _ (by omega)])⟩
  · iterate 1 (refine zv_step (bX6_keepNode 43) rfl rfl trivial ?_)
    refine zv_iff (by decide) ?_
    iterate 1 (refine zv_step (bX6_keepNode 43) rfl rfl trivial ?_)
    exact zv_iret (bX6_keepNode 43) rfl (Or.inl rfl) (Nat.zero_le _) (Nat.zero_le _) ⟨O, P, _, rfl, rfl, fun _ _ => rfl, fun _ _ => rfl, Or.inl rfl⟩
end
section
set_option maxHeartbeats 1000000 in
set_option maxRecDepth 20000 in
theorem cKeepT (O : Nat → Int32) (P : Nat → Nat → Int32) (Y : Nat → Nat → Int64) (g : Nat → zC) {u : Nat} (hu0 : u ≤ 120) (h1 : O 1 = nI u) (hp : pgI u (P 2) (P 4) (P 5) (P 6)) {l : Nat} (hl : l ≤ 20) (hO : O 9 = nI l) {s : Nat} (hs : s < 8) (x n : Int32) {n0 : Nat} : zV (zMo 44 zX6_keep) false n0 0 0 9 [(0, .ref 0), (1, .int (nI s)), (2, .int x), (3, .int n)] [] (wX O P Y g) (fun r w' => ∃ (O' : Nat → Int32) (P' : Nat → Nat → Int32) (R : Int32) (s : Nat), s < 8 ∧ r = some (.int R) ∧ w' = wX O' P' Y g ∧ shW O P s O' P') := by
  refine zv_step (bX6_keep 44) rfl rfl trivial ?_
  by_cases hd : x.toInt < 0 ∨ 4 < x.toInt
  · refine zv_step (bX6_keep 44) rfl rfl (by decide) ?_
    rw [if_pos hd]
    iterate 1 (refine zv_step (bX6_keep 44) rfl rfl trivial ?_)
    exact zv_iret (bX6_keep 44) rfl (Or.inl rfl) (Nat.zero_le _) (Nat.zero_le _) ⟨O, P, _, s, hs, rfl, rfl, fun _ _ => rfl, fun _ _ => rfl, Or.inl rfl⟩
  · obtain ⟨c, hc, rfl⟩ : ∃ c : Nat, c < 5 ∧ x = nI c := by
      refine ⟨x.toInt.toNat, by omega, ?_⟩
      rw [← Int32.toInt_inj, nI_toInt (by omega)]
      omega
    match c, hc with
    | 0, _ =>
      refine zv_step (bX6_keep 44) rfl rfl (by decide) ?_
      iterate 1 (refine zv_step (bX6_keep 44) rfl rfl trivial ?_)
      refine zv_getf (bX6_keep 44) rfl (rfl) rfl ?_
      iterate 1 (refine zv_step (bX6_keep 44) rfl rfl trivial ?_)
      refine zv_aald (bX6_keep 44) rfl (Or.inl rfl) rfl (show vp_in (nI s) 8 from vp_in_nI (by omega) (by decide)) (show ([some 59, some 61, some 63, some 65, some 67, some 69, some 71, some 73] : List (Option Nat)).getD (nI s).toNatClampNeg none = some (59 + 2 * s) by rw [nI_clamp (by omega)]; exact dSs hs) ?_
      refine zv_V0 (bX6_keep 44) rfl rfl rfl (wS O P Y g hs) rfl rfl rfl ⟨rfl, rfl, rfl⟩ ⟨by decide, by decide⟩ ⟨Nat.zero_le _, Nat.zero_le _⟩ (hDrop O P Y g hs) ?_
      rintro _ _ ⟨rfl, rfl⟩
      iterate 1 (refine zv_step (bX6_keep 44) rfl rfl trivial ?_)
      exact zv_iret (bX6_keep 44) rfl (Or.inl rfl) (Nat.zero_le _) (Nat.zero_le _) ⟨_, P, _, s, hs, rfl, rfl, fun j hj => by rw [upd_ne _ _ (by omega)], fun _ _ => rfl, Or.inl (by rw [upd_ne _ _ (by omega)])⟩
    | 1, _ =>
      refine zv_step (bX6_keep 44) rfl rfl (by decide) ?_
      iterate 2 (refine zv_step (bX6_keep 44) rfl rfl trivial ?_)
      refine zv_getf (bX6_keep 44) rfl (rfl) rfl ?_
      iterate 1 (refine zv_step (bX6_keep 44) rfl rfl trivial ?_)
      refine zv_aald (bX6_keep 44) rfl (Or.inl rfl) rfl (show vp_in (nI s) 8 from vp_in_nI (by omega) (by decide)) (show ([some 59, some 61, some 63, some 65, some 67, some 69, some 71, some 73] : List (Option Nat)).getD (nI s).toNatClampNeg none = some (59 + 2 * s) by rw [nI_clamp (by omega)]; exact dSs hs) ?_
      iterate 2 (refine zv_step (bX6_keep 44) rfl rfl trivial ?_)
      refine zv_V3 (bX6_keep 44) rfl rfl rfl rfl rfl rfl rfl ⟨rfl, rfl, rfl⟩ ⟨by decide, by decide⟩ ⟨Nat.zero_le _, Nat.zero_le _⟩ (cKeepNode O P Y g hu0 h1 hp hs _ _) ?_
      rintro _ _ ⟨O1, P1, R1, rfl, rfl, hW⟩
      exact zv_iret (bX6_keep 44) rfl (Or.inl rfl) (Nat.zero_le _) (Nat.zero_le _) ⟨O1, P1, R1, s, hs, rfl, rfl, hW⟩
    | 2, _ =>
      refine zv_step (bX6_keep 44) rfl rfl (by decide) ?_
      iterate 1 (refine zv_step (bX6_keep 44) rfl rfl trivial ?_)
      exact zv_iret (bX6_keep 44) rfl (Or.inl rfl) (Nat.zero_le _) (Nat.zero_le _) ⟨O, P, _, s, hs, rfl, rfl, fun _ _ => rfl, fun _ _ => rfl, Or.inl rfl⟩
    | 3, _ =>
      refine zv_step (bX6_keep 44) rfl rfl (by decide) ?_
      iterate 1 (refine zv_step (bX6_keep 44) rfl rfl trivial ?_)
      refine zv_getf (bX6_keep 44) rfl (rfl) rfl ?_
      iterate 1 (refine zv_step (bX6_keep 44) rfl rfl trivial ?_)
      refine zv_aald (bX6_keep 44) rfl (Or.inl rfl) rfl (show vp_in (nI s) 8 from vp_in_nI (by omega) (by decide)) (show ([some 59, some 61, some 63, some 65, some 67, some 69, some 71, some 73] : List (Option Nat)).getD (nI s).toNatClampNeg none = some (59 + 2 * s) by rw [nI_clamp (by omega)]; exact dSs hs) ?_
      iterate 2 (refine zv_step (bX6_keep 44) rfl rfl trivial ?_)
      refine zv_getf (bX6_keep 44) rfl (rfl) rfl ?_
      refine zv_getf (bX6_keep 44) rfl (rfl) rfl ?_
      iterate 1 (refine zv_step (bX6_keep 44) rfl rfl trivial ?_)
      refine zv_getf (bX6_keep 44) rfl (rfl) rfl ?_
      refine zv_getf (bX6_keep 44) rfl (rfl) (congrArg (fun q => some (Value.int q)) hO) ?_
      refine zv_V3 (bX6_keep 44) rfl rfl rfl (wS O P Y g hs) rfl rfl rfl ⟨rfl, rfl, rfl⟩ ⟨by decide, by decide⟩ ⟨Nat.zero_le _, Nat.zero_le _⟩ (hHoldRow O P Y g hs _ hl) ?_
      rintro _ _ ⟨rfl, P1, rfl, hP1⟩
      iterate 1 (refine zv_step (bX6_keep 44) rfl rfl trivial ?_)
      exact zv_iret (bX6_keep 44) rfl (Or.inl rfl) (Nat.zero_le _) (Nat.zero_le _) ⟨_, P1, _, s, hs, rfl, rfl, fun j hj => by rw [upd_ne _ _ (by omega), upd_ne _ _ (by omega)], hP1, Or.inr ⟨l, by omega, by rw [upd_self]⟩⟩
    | 4, _ =>
      refine zv_step (bX6_keep 44) rfl rfl (by decide) ?_
      iterate 2 (refine zv_step (bX6_keep 44) rfl rfl trivial ?_)
      refine zv_getf (bX6_keep 44) rfl (rfl) rfl ?_
      iterate 1 (refine zv_step (bX6_keep 44) rfl rfl trivial ?_)
      refine zv_aald (bX6_keep 44) rfl (Or.inl rfl) rfl (show vp_in (nI s) 8 from vp_in_nI (by omega) (by decide)) (show ([some 59, some 61, some 63, some 65, some 67, some 69, some 71, some 73] : List (Option Nat)).getD (nI s).toNatClampNeg none = some (59 + 2 * s) by rw [nI_clamp (by omega)]; exact dSs hs) ?_
      iterate 2 (refine zv_step (bX6_keep 44) rfl rfl trivial ?_)
      refine zv_V3 (bX6_keep 44) rfl rfl rfl rfl rfl rfl rfl ⟨rfl, rfl, rfl⟩ ⟨by decide, by decide⟩ ⟨Nat.zero_le _, Nat.zero_le _⟩ (cKeepNode O P Y g hu0 h1 hp hs _ _) ?_
      rintro _ _ ⟨O1, P1, R1, rfl, rfl, hW⟩
      exact zv_iret (bX6_keep 44) rfl (Or.inl rfl) (Nat.zero_le _) (Nat.zero_le _) ⟨O1, P1, R1, s, hs, rfl, rfl, hW⟩
    | c + 5, h => exact absurd h (by omega)
set_option maxHeartbeats 1000000 in
set_option maxRecDepth 20000 in
theorem cKeep (O : Nat → Int32) (P : Nat → Nat → Int32) (Y : Nat → Nat → Int64) (g : Nat → zC) {u : Nat} (hu0 : u ≤ 120) (h1 : O 1 = nI u) (hp : pgI u (P 2) (P 4) (P 5) (P 6)) {l : Nat} (hl : l ≤ 20) (hO : O 9 = nI l) (y x n : Int32) : zK 44 zX6_keep [.ref 0, .int y, .int x, .int n] (wX O P Y g) (fun r w' => ∃ (O' : Nat → Int32) (P' : Nat → Nat → Int32) (R : Int32) (s : Nat), s < 8 ∧ r = some (.int R) ∧ w' = wX O' P' Y g ∧ shW O P s O' P') := by
  refine zK_of qX6_keep (by decide +kernel) rfl ?_
  iterate 1 (refine zv_step (bX6_keep 44) rfl rfl trivial ?_)
  refine zv_S1 (bX6_keep 44) rfl rfl rfl rfl ⟨rfl, rfl, rfl⟩ ⟨by decide, by decide⟩ ⟨Nat.zero_le _, Nat.zero_le _⟩ (hX6_isShelf _ _) ?_
  rintro _ _ ⟨rfl, ⟨hx, rfl⟩ | ⟨hx, rfl⟩⟩
  · iterate 1 (refine zv_step (bX6_keep 44) rfl rfl trivial ?_)
    refine zv_ift (by decide) ?_
    obtain ⟨s, hs, rfl⟩ := sh_of hx
    exact cKeepT O P Y g hu0 h1 hp hl hO hs _ _
  · iterate 1 (refine zv_step (bX6_keep 44) rfl rfl trivial ?_)
    refine zv_iff (by decide) ?_
    iterate 1 (refine zv_step (bX6_keep 44) rfl rfl trivial ?_)
    exact zv_iret (bX6_keep 44) rfl (Or.inl rfl) (Nat.zero_le _) (Nat.zero_le _) ⟨O, P, _, 0, by decide, rfl, rfl, fun _ _ => rfl, fun _ _ => rfl, Or.inl rfl⟩
end
section
set_option maxHeartbeats 1000000 in
set_option maxRecDepth 20000 in
theorem cClear85 (O : Nat → Int32) (P : Nat → Nat → Int32) (Y : Nat → Nat → Int64) (g : Nat → zC) (x n a b e : Int32) {i n0 : Nat} {Q : Option Value → zW → Prop} (kk : ∀ b', zV (zMo 1 zX6_clear) false n0 0 0 34 [(5, .int (nI i + Int32.ofInt 1)), (4, .int (b')), (3, .int (a)), (0, .ref 0), (1, .int x), (2, .int n)] [] (wX O P Y g) Q) : zV (zMo 1 zX6_clear) false n0 0 0 85 [(3, .int a), (6, .int e), (5, .int (nI i)), (4, .int b), (0, .ref 0), (1, .int x), (2, .int n)] [] (wX O P Y g) Q := by
  iterate 2 (refine zv_step (bX6_clear 1) rfl rfl trivial ?_)
  refine zv_ifb (fun h1 => ?_) (fun h1 => ?_)
  · iterate 5 (refine zv_step (bX6_clear 1) rfl rfl trivial ?_)
    refine zv_locals (l := [(5, .int (nI i + Int32.ofInt 1)), (4, .int (Int32.ofInt 1)), (3, .int a), (6, .int e), (0, .ref 0), (1, .int x), (2, .int n)]) (l' := [(5, .int (nI i + Int32.ofInt 1)), (4, .int (Int32.ofInt 1)), (3, .int (a)), (0, .ref 0), (1, .int x), (2, .int n)]) ?_ (kk _)
    simp
  · iterate 2 (refine zv_step (bX6_clear 1) rfl rfl trivial ?_)
    refine zv_ifb (fun h2 => ?_) (fun h2 => ?_)
    · iterate 4 (refine zv_step (bX6_clear 1) rfl rfl trivial ?_)
      refine zv_locals (l := [(5, .int (nI i + Int32.ofInt 1)), (4, .int (Int32.ofInt 0)), (3, .int a), (6, .int e), (0, .ref 0), (1, .int x), (2, .int n)]) (l' := [(5, .int (nI i + Int32.ofInt 1)), (4, .int (Int32.ofInt 0)), (3, .int (a)), (0, .ref 0), (1, .int x), (2, .int n)]) ?_ (kk _)
      simp
    · iterate 1 (refine zv_step (bX6_clear 1) rfl rfl trivial ?_)
      refine zv_S1 (bX6_clear 1) rfl rfl rfl rfl ⟨rfl, rfl, rfl⟩ ⟨by decide, by decide⟩ ⟨Nat.zero_le _, Nat.zero_le _⟩ (hX1_isPrefix _ _) ?_
      rintro _ _ ⟨rfl, ⟨h3, rfl⟩ | ⟨h3, rfl⟩⟩
      · iterate 1 (refine zv_step (bX6_clear 1) rfl rfl trivial ?_)
        refine zv_iff (by decide) ?_
        iterate 5 (refine zv_step (bX6_clear 1) rfl rfl trivial ?_)
        refine zv_locals (l := [(5, .int (nI i + Int32.ofInt 1)), (4, .int (Int32.ofInt 1)), (3, .int a), (6, .int e), (0, .ref 0), (1, .int x), (2, .int n)]) (l' := [(5, .int (nI i + Int32.ofInt 1)), (4, .int (Int32.ofInt 1)), (3, .int (a)), (0, .ref 0), (1, .int x), (2, .int n)]) ?_ (kk _)
        simp
      · iterate 1 (refine zv_step (bX6_clear 1) rfl rfl trivial ?_)
        refine zv_ift (by decide) ?_
        iterate 4 (refine zv_step (bX6_clear 1) rfl rfl trivial ?_)
        refine zv_locals (l := [(5, .int (nI i + Int32.ofInt 1)), (4, .int (Int32.ofInt 0)), (3, .int a), (6, .int e), (0, .ref 0), (1, .int x), (2, .int n)]) (l' := [(5, .int (nI i + Int32.ofInt 1)), (4, .int (Int32.ofInt 0)), (3, .int (a)), (0, .ref 0), (1, .int x), (2, .int n)]) ?_ (kk _)
        simp
set_option maxHeartbeats 1000000 in
set_option maxRecDepth 20000 in
theorem cClearL (O : Nat → Int32) (P : Nat → Nat → Int32) (Y : Nat → Nat → Int64) (g : Nat → zC) {x : Int32} (hv : vp_in x 8) (n : Int32) {n0 : Nat} : ∀ (c i : Nat), i + c = 10 → ∀ {x5 b a : Int32}, x5 = nI i → zV (zMo 1 zX6_clear) false n0 0 0 34 [(5, .int (x5)), (4, .int (b)), (3, .int (a)), (0, .ref 0), (1, .int x), (2, .int n)] [] (wX O P Y g) (fun r w' => w' = wX O P Y g ∧ ∃ v : Int32, r = some (.int v)) := by
  intro c
  induction c with
  | zero =>
    intro i hc x5 b a e5
    subst e5
    iterate 3 (refine zv_step (bX6_clear 1) rfl rfl trivial ?_)
    refine zv_ift (show c8 9 < nI i by rw [show c8 9 = nI 9 from rfl]; exact nI_lt (by omega) (by omega)) ?_
    iterate 2 (refine zv_step (bX6_clear 1) rfl rfl trivial ?_)
    refine zv_ifb (fun h1 => ?_) (fun h1 => ?_)
    · iterate 1 (refine zv_step (bX6_clear 1) rfl rfl trivial ?_)
      exact zv_iret (bX6_clear 1) rfl (Or.inl rfl) (Nat.zero_le _) (Nat.zero_le _) ⟨rfl, _, rfl⟩
    · iterate 2 (refine zv_step (bX6_clear 1) rfl rfl trivial ?_)
      refine zv_ifb (fun h2 => ?_) (fun h2 => ?_)
      · iterate 1 (refine zv_step (bX6_clear 1) rfl rfl trivial ?_)
        exact zv_iret (bX6_clear 1) rfl (Or.inl rfl) (Nat.zero_le _) (Nat.zero_le _) ⟨rfl, _, rfl⟩
      · iterate 2 (refine zv_step (bX6_clear 1) rfl rfl trivial ?_)
        exact zv_iret (bX6_clear 1) rfl (Or.inl rfl) (Nat.zero_le _) (Nat.zero_le _) ⟨rfl, _, rfl⟩
  | succ c ih =>
    intro i hc x5 b a e5
    subst e5
    iterate 3 (refine zv_step (bX6_clear 1) rfl rfl trivial ?_)
    refine zv_iff (show ¬ c8 9 < nI i by rw [show c8 9 = nI 9 from rfl]; exact nI_nlt (by omega) (by omega)) ?_
    iterate 3 (refine zv_step (bX6_clear 1) rfl rfl trivial ?_)
    refine zv_step (bX6_clear 1) rfl rfl (hv) ?_
    iterate 1 (refine zv_step (bX6_clear 1) rfl rfl trivial ?_)
    refine zv_S2 (bX6_clear 1) rfl rfl rfl rfl ⟨rfl, rfl, rfl⟩ ⟨by decide, by decide⟩ ⟨Nat.zero_le _, Nat.zero_le _⟩ (pHasBitW _ _ _) ?_
    rintro _ _ ⟨rfl, rfl⟩
    iterate 1 (refine zv_step (bX6_clear 1) rfl rfl trivial ?_)
    refine zv_ifb (fun h1 => ?_) (fun h1 => ?_)
    · iterate 4 (refine zv_step (bX6_clear 1) rfl rfl trivial ?_)
      refine zv_ifb (fun h3 => ?_) (fun h3 => ?_)
      · iterate 3 (refine zv_step (bX6_clear 1) rfl rfl trivial ?_)
        exact cClear85 O P Y g x n _ _ _ (fun b' => ih (i + 1) (by omega) (nI_1 i))
      · iterate 2 (refine zv_step (bX6_clear 1) rfl rfl trivial ?_)
        refine zv_ift (by decide) ?_
        iterate 2 (refine zv_step (bX6_clear 1) rfl rfl trivial ?_)
        exact cClear85 O P Y g x n _ _ _ (fun b' => ih (i + 1) (by omega) (nI_1 i))
    · iterate 5 (refine zv_step (bX6_clear 1) rfl rfl trivial ?_)
      refine zv_ifb (fun h3 => ?_) (fun h3 => ?_)
      · iterate 3 (refine zv_step (bX6_clear 1) rfl rfl trivial ?_)
        exact cClear85 O P Y g x n _ _ _ (fun b' => ih (i + 1) (by omega) (nI_1 i))
      · iterate 2 (refine zv_step (bX6_clear 1) rfl rfl trivial ?_)
        refine zv_iff (by decide) ?_
        iterate 1 (refine zv_step (bX6_clear 1) rfl rfl trivial ?_)
        refine zv_S1 (bX6_clear 1) rfl rfl rfl rfl ⟨rfl, rfl, rfl⟩ ⟨by decide, by decide⟩ ⟨Nat.zero_le _, Nat.zero_le _⟩ (hX1_isPair _ _) ?_
        rintro _ _ ⟨rfl, ⟨h4, rfl⟩ | ⟨h4, rfl⟩⟩
        · iterate 1 (refine zv_step (bX6_clear 1) rfl rfl trivial ?_)
          refine zv_iff (by decide) ?_
          iterate 3 (refine zv_step (bX6_clear 1) rfl rfl trivial ?_)
          exact cClear85 O P Y g x n _ _ _ (fun b' => ih (i + 1) (by omega) (nI_1 i))
        · iterate 1 (refine zv_step (bX6_clear 1) rfl rfl trivial ?_)
          refine zv_ift (by decide) ?_
          iterate 2 (refine zv_step (bX6_clear 1) rfl rfl trivial ?_)
          exact cClear85 O P Y g x n _ _ _ (fun b' => ih (i + 1) (by omega) (nI_1 i))
set_option maxHeartbeats 1000000 in
set_option maxRecDepth 20000 in
theorem cClear (O : Nat → Int32) (P : Nat → Nat → Int32) (Y : Nat → Nat → Int64) (g : Nat → zC) (x n : Int32) : zK 1 zX6_clear [.ref 0, .int x, .int n] (wX O P Y g) (fun r w' => w' = wX O P Y g ∧ ∃ v : Int32, r = some (.int v)) := by
  refine zK_of qX6_clear (by decide +kernel) rfl ?_
  iterate 1 (refine zv_step (bX6_clear 1) rfl rfl trivial ?_)
  refine zv_S1 (bX6_clear 1) rfl rfl rfl rfl ⟨rfl, rfl, rfl⟩ ⟨by decide, by decide⟩ ⟨Nat.zero_le _, Nat.zero_le _⟩ (hX6_isStyle _ _) ?_
  rintro _ _ ⟨rfl, ⟨hx, rfl⟩ | ⟨hx, rfl⟩⟩
  · iterate 1 (refine zv_step (bX6_clear 1) rfl rfl trivial ?_)
    refine zv_iff (by decide) ?_
    iterate 3 (refine zv_step (bX6_clear 1) rfl rfl trivial ?_)
    refine zv_ifb (fun h1 => ?_) (fun h1 => ?_)
    · iterate 1 (refine zv_step (bX6_clear 1) rfl rfl trivial ?_)
      exact zv_iret (bX6_clear 1) rfl (Or.inl rfl) (Nat.zero_le _) (Nat.zero_le _) ⟨rfl, _, rfl⟩
    · iterate 3 (refine zv_step (bX6_clear 1) rfl rfl trivial ?_)
      refine zv_ifb (fun h2 => ?_) (fun h2 => ?_)
      · iterate 3 (refine zv_step (bX6_clear 1) rfl rfl trivial ?_)
        refine zv_ifb (fun h3 => ?_) (fun h3 => ?_)
        · iterate 6 (refine zv_step (bX6_clear 1) rfl rfl trivial ?_)
          exact cClearL O P Y g (vp_in_iff.mpr ⟨hx.1, Int.lt_of_le_of_lt hx.2 (by decide)⟩) n 8 2 rfl rfl
        · iterate 1 (refine zv_step (bX6_clear 1) rfl rfl trivial ?_)
          exact zv_iret (bX6_clear 1) rfl (Or.inl rfl) (Nat.zero_le _) (Nat.zero_le _) ⟨rfl, _, rfl⟩
      · iterate 1 (refine zv_step (bX6_clear 1) rfl rfl trivial ?_)
        exact zv_iret (bX6_clear 1) rfl (Or.inl rfl) (Nat.zero_le _) (Nat.zero_le _) ⟨rfl, _, rfl⟩
  · iterate 1 (refine zv_step (bX6_clear 1) rfl rfl trivial ?_)
    refine zv_ift (by decide) ?_
    iterate 1 (refine zv_step (bX6_clear 1) rfl rfl trivial ?_)
    exact zv_iret (bX6_clear 1) rfl (Or.inl rfl) (Nat.zero_le _) (Nat.zero_le _) ⟨rfl, _, rfl⟩
end
section
def rtN (t d : Nat) (N : Nat → Int32) : Prop := N 0 = nI t ∧ ∀ i, i ≤ d → ∃ j, j ≤ t ∧ N i = nI j
theorem pt_lt {u : Nat} (hu : u ≤ 120) {P : Nat → Nat → Int32} (hp : pgI u (P 2) (P 4) (P 5) (P 6)) {j : Nat} (hj : j < u) (dg : Int32) : ptW (nI u) (P 4) (P 5) (nI j) dg = Int32.ofInt (-1) ∨ ∃ i, i < j ∧ ptW (nI u) (P 4) (P 5) (nI j) dg = nI i := by
  have e : nC (nI j) = j := nI_clamp (by omega)
  obtain ⟨_, h1, h2, _⟩ := hp j hj
  unfold ptW
  rw [e]
  split
  · split
    · exact h1
    · split
      · exact h2
      · exact Or.inl rfl
  · exact Or.inl rfl
theorem rt_up {t d d' : Nat} {N : Nat → Int32} (h : rtN t d N) (hd : d' ≤ d) : rtN t d' N := ⟨h.1, fun i hi => h.2 i (by omega)⟩
theorem rt_set {t d e : Nat} {N : Nat → Int32} {x : Int32} (h : rtN t d N) (he : e ≤ d + 1) (he0 : 1 ≤ e) (hx : ∃ j, j ≤ t ∧ x = nI j) : rtN t e (upd N e x) := by
  refine ⟨(upd_ne _ _ (by omega)).trans h.1, fun i hi => ?_⟩
  by_cases c : i = e
  · subst c
    obtain ⟨j, hj, rfl⟩ := hx
    exact ⟨j, hj, upd_self _ _ _⟩
  · obtain ⟨j, hj, e2⟩ := h.2 i (by omega)
    exact ⟨j, hj, (upd_ne _ _ c).trans e2⟩
theorem pt_ok {u t : Nat} (hu : u ≤ 120) {P : Nat → Nat → Int32} (hp : pgI u (P 2) (P 4) (P 5) (P 6)) {d i : Nat} {N : Nat → Int32} (h : rtN t d N) (ht : t < u) (hi : i ≤ d) {dg : Int32} (hn : ¬ ptW (nI u) (P 4) (P 5) (N i) dg = Int32.ofInt (-1)) : ∃ j, j ≤ t ∧ ptW (nI u) (P 4) (P 5) (N i) dg = nI j := by
  obtain ⟨j, hj, e⟩ := h.2 i hi
  rw [e] at hn ⊢
  obtain ⟨i2, h2, e2⟩ := (pt_lt hu hp (by omega) dg).resolve_left hn
  exact ⟨i2, by omega, e2⟩
theorem rt_sd {u t : Nat} (hu : u ≤ 120) {P : Nat → Nat → Int32} (hp : pgI u (P 2) (P 4) (P 5) (P 6)) {s : Nat × (Nat → Int32) × (Nat → Int32)} (dg : Int32) (ht : t < u) (h : rtN t s.1 s.2.1) : rtN t (sdW (nI u) (P 4) (P 5) dg s).1 (sdW (nI u) (P 4) (P 5) dg s).2.1 := by
  unfold sdW
  split
  · exact h
  · rename_i q
    exact rt_set h (Nat.le_refl _) (by omega) (pt_ok hu hp h ht (Nat.le_refl _) (fun e => q (Or.inl e)))
theorem rt_fo {u t : Nat} (hu : u ≤ 120) {P : Nat → Nat → Int32} (hp : pgI u (P 2) (P 4) (P 5) (P 6)) (ht : t < u) : ∀ (c : Nat) (r : Int32) (s : Nat × (Nat → Int32) × (Nat → Int32)), s.1 < 40 → (foW (nI u) (P 4) (P 5) c r s).1 < 40 ∧ (rtN t s.1 s.2.1 → rtN t (foW (nI u) (P 4) (P 5) c r s).1 (foW (nI u) (P 4) (P 5) c r s).2.1)
  | 0, r, s, hs => ⟨hs, id⟩
  | c + 1, r, s, hs => by
    rw [foW_s]
    split
    · exact ⟨hs, id⟩
    · obtain ⟨a, b⟩ := rt_fo hu hp ht c (r / Int32.ofInt 3) (sdW (nI u) (P 4) (P 5) (r - r / Int32.ofInt 3 * Int32.ofInt 3) s) (sdW_le hs)
      exact ⟨a, fun h => b (rt_sd hu hp _ ht h)⟩
theorem updA_same (A : Nat → Nat → Int32) (k : Nat) : updA A k (A k) = A := by
  funext j
  by_cases e : j = k
  · subst e
    exact updA_self _ _ _
  · exact updA_ne _ _ e
theorem wX_rt {O : Nat → Int32} (P : Nat → Nat → Int32) (Y : Nat → Nat → Int64) (g : Nat → zC) {d : Nat} (h : O 14 = nI d) : wX O P Y g = wX (upd O 14 (nI d)) (updA (updA P 56 (P 56)) 57 (P 57)) Y g := by
  rw [upd_same h, updA_same P 56, updA_same P 57]
theorem foW_le {u : Int32} {Xs Ys : Nat → Int32} : ∀ (c : Nat) (r : Int32) (s : Nat × (Nat → Int32) × (Nat → Int32)), s.1 < 40 → (foW u Xs Ys c r s).1 < 40
  | 0, r, s, hs => hs
  | c + 1, r, s, hs => by
    rw [foW_s]
    split
    · exact hs
    · exact foW_le c _ _ (sdW_le hs)
set_option maxHeartbeats 1000000 in
set_option maxRecDepth 20000 in
theorem wHereG (O : Nat → Int32) (P : Nat → Nat → Int32) (Y : Nat → Nat → Int64) (g : Nat → zC) {dd : Nat} (hd : dd < 40) (h14 : O 14 = nI dd) : zK 0 zX5_here [.ref 55] (wX O P Y g) (fun r w' => w' = wX O P Y g ∧ r = some (.int (P 56 dd))) := by
  refine zK_of qX5_here (by decide +kernel) rfl ?_
  iterate 4 (refine zv_step (bX5_here 0) rfl rfl trivial ?_)
  refine zv_iale (bX5_here 0) rfl rfl (show vp_in (O 14) 40 by rw [h14]; exact vp_in_nI hd (by decide)) (show P 56 (O 14).toNatClampNeg = P 56 dd by rw [h14, nI_clamp (by omega)]) ?_
  exact zv_iret (bX5_here 0) rfl (Or.inl rfl) (Nat.zero_le _) (Nat.zero_le _) ⟨rfl, rfl⟩
end
section
section ZCP
variable {M : zM} {al : Bool} {n0 kc ks pc nxt a b : Nat} {c0 : Int} {l : zL} {st rest : List Value} {w : zW} {Q : Option Value → zW → Prop} {tb : List zE}
theorem zv_copyI (ok : zTb M tb) {idx : Nat} (hlook : zlook tb pc = some (.invokestatic idx, pc + 3, a, b, c0)) (hm : Cond.methodLink M.1 idx arraycopyName ∈ zG ∧ Cond.native arraycopyName ∈ zG ∧ Cond.static arraycopyName ∈ zG ∧ Cond.initialized "java/lang/System" ∈ zG) (hcat : Nat.ble (rest.map fun v => v.category).sum 8 = true) (hR : 1 ≤ M.2.2.2.2.1.frames ∧ 8 + (nativeFrameWords "java/lang/System" "arraycopy" 5 + 11) ≤ M.2.2.2.2.1.locals) {k0 k1 m0 m1 : Nat} {f g : Nat → Int32} (hw0 : w[k0]? = some (zI 0 m0 f)) (hw1 : w[k1]? = some (zI 0 m1 g)) {sp dp n : Int32} (h1 : ¬ sp < 0) (h2 : ¬ dp < 0) (h3 : ¬ n < 0) (h4 : sp.toNatClampNeg + n.toNatClampNeg ≤ m0) (h5 : dp.toNatClampNeg + n.toNatClampNeg ≤ m1)
    (kk : zV M al n0 kc ks (pc + 3) l rest (w.set k1 (zI 0 m1 (va_cpy f g sp.toNatClampNeg dp.toNatClampNeg n.toNatClampNeg))) Q) : zV M al n0 kc ks pc l (.int n :: .int dp :: .ref k1 :: .int sp :: .ref k0 :: rest) w Q := by
  intro p l0 e s m args below meth c dC dI dA ad0 A Z h9t hctx hfin ad H locs ls hrel hl
  obtain ⟨F, hF, ok⟩ := ok
  have h0 := ok _ (zlook_mem hlook)
  simp only [zgood, Bool.and_eq_true, decide_eq_true_eq, Nat.add_sub_cancel_left] at h0
  obtain ⟨hx, hbb, hml, hown, hts, hKc, hA, hxn⟩ := id hctx
  refine va_copyi (rest := rest.map (zv ad)) hx hbb (hml.trans hl.1.symm) hown (hts _ hm.1) (hts _ hm.2.1) (hts _ hm.2.2.1) (hts _ hm.2.2.2) hKc.1 hrel.2.2.1 hrel.2.2.2.1 hrel.2.2.2.2 k0 k1 0 0 (zw_at hw0) (zw_at hw1) rfl rfl rfl h1 h2 h3 h4 h5 (fun i hi => rfl) hR.1 ?_ h0.1.1 (fun H1 locs1 hP1 hD1 hS1 => kk p l0 e s m args below meth c dC dI dA ad0 A Z h9t hctx hfin ad H1 locs1 ls ⟨hrel.1, hrel.2.1, (zw_set dA ad w k1 _) ▸ hP1, (zw_set dA ad w k1 _) ▸ hD1, hS1⟩ hl)
  rw [zcats]
  have := Nat.le_of_ble_eq_true hcat
  omega
end ZCP
set_option maxRecDepth 100000 in
theorem zCopyM : Cond.methodLink RX6 278 arraycopyName ∈ zG ∧ Cond.native arraycopyName ∈ zG ∧ Cond.static arraycopyName ∈ zG ∧ Cond.initialized "java/lang/System" ∈ zG := by decide +kernel
theorem span_le {m : Nat} {i n : Int32} (hm : m ≤ 60) (h : 0 ≤ i ∧ 0 ≤ n ∧ i ≤ nI m - n) : i.toNatClampNeg + n.toNatClampNeg ≤ 60 ∧ ¬ i < 0 ∧ ¬ n < 0 := by
  obtain ⟨a, b, c⟩ := h
  have hn := Int32.toInt_lt n
  rw [Int32.le_iff_toInt_le, Int32.toInt_zero] at a b
  rw [Int32.le_iff_toInt_le, Int32.toInt_sub, nI_toInt (by omega), Int.bmod_eq_of_le (by omega) (by omega)] at c
  refine ⟨?_, ?_, ?_⟩
  · show i.toInt.toNat + n.toInt.toNat ≤ 60
    omega
  · rw [Int32.lt_iff_toInt_lt, Int32.toInt_zero]
    omega
  · rw [Int32.lt_iff_toInt_lt, Int32.toInt_zero]
    omega
theorem shW_refl (O : Nat → Int32) (P : Nat → Nat → Int32) (s : Nat) : shW O P s O P := ⟨fun _ _ => rfl, fun _ _ => rfl, Or.inl rfl⟩
set_option maxHeartbeats 1000000 in
set_option maxRecDepth 20000 in
theorem hBitC (w : zW) (x : Int32) : zK 0 zJ6_bitCount_0f7a4 [.int x] w (fun r w' => w' = w ∧ ∃ v : Int32, r = some (.int v)) := by
  refine zK_of qJ6_bitCount_0f7a4 (by decide +kernel) rfl ?_
  iterate 41 (refine zv_step (bJ6_bitCount_0f7a4 0) rfl rfl trivial ?_)
  exact zv_iret (bJ6_bitCount_0f7a4 0) rfl (Or.inl rfl) (Nat.zero_le _) (Nat.zero_le _) ⟨rfl, _, rfl⟩
set_option maxHeartbeats 1000000 in
set_option maxRecDepth 20000 in
theorem cCount (O : Nat → Int32) (P : Nat → Nat → Int32) (Y : Nat → Nat → Int64) (g : Nat → zC) (x : Int32) : zK 1 zX6_count [.ref 0, .int x] (wX O P Y g) (fun r w' => w' = wX O P Y g ∧ ∃ v : Int32, r = some (.int v)) := by
  refine zK_of qX6_count (by decide +kernel) rfl ?_
  refine zv_step (bX6_count 1) rfl rfl trivial ?_
  by_cases hd : x.toInt < 0 ∨ 2 < x.toInt
  · refine zv_step (bX6_count 1) rfl rfl (by decide) ?_
    rw [if_pos hd]
    iterate 1 (refine zv_step (bX6_count 1) rfl rfl trivial ?_)
    exact zv_iret (bX6_count 1) rfl (Or.inl rfl) (Nat.zero_le _) (Nat.zero_le _) ⟨rfl, _, rfl⟩
  · obtain ⟨c, hc, rfl⟩ : ∃ c : Nat, c < 3 ∧ x = nI c := by
      refine ⟨x.toInt.toNat, by omega, ?_⟩
      rw [← Int32.toInt_inj, nI_toInt (by omega)]
      omega
    match c, hc with
    | 0, _ =>
      refine zv_step (bX6_count 1) rfl rfl (by decide) ?_
      iterate 3 (refine zv_step (bX6_count 1) rfl rfl trivial ?_)
      exact zv_iret (bX6_count 1) rfl (Or.inl rfl) (Nat.zero_le _) (Nat.zero_le _) ⟨rfl, _, rfl⟩
    | 1, _ =>
      refine zv_step (bX6_count 1) rfl rfl (by decide) ?_
      iterate 3 (refine zv_step (bX6_count 1) rfl rfl trivial ?_)
      exact zv_iret (bX6_count 1) rfl (Or.inl rfl) (Nat.zero_le _) (Nat.zero_le _) ⟨rfl, _, rfl⟩
    | 2, _ =>
      refine zv_step (bX6_count 1) rfl rfl (by decide) ?_
      iterate 2 (refine zv_step (bX6_count 1) rfl rfl trivial ?_)
      refine zv_S1 (bX6_count 1) rfl rfl rfl rfl ⟨rfl, rfl, rfl⟩ ⟨by decide, by decide⟩ ⟨Nat.zero_le _, Nat.zero_le _⟩ (hBitC _ _) ?_
      rintro _ _ ⟨rfl, v, rfl⟩
      exact zv_iret (bX6_count 1) rfl (Or.inl rfl) (Nat.zero_le _) (Nat.zero_le _) ⟨rfl, _, rfl⟩
    | c + 3, h => exact absurd h (by omega)
set_option maxHeartbeats 1000000 in
set_option maxRecDepth 20000 in
theorem wHereX (O : Nat → Int32) (P : Nat → Nat → Int32) (Y : Nat → Nat → Int64) (g : Nat → zC) {dd : Nat} (hd : dd < 40) (h14 : O 14 = nI dd) {x : Int32} (hx : P 56 dd = x) : zK 0 zX5_here [.ref 55] (wX O P Y g) (fun r w' => w' = wX O P Y g ∧ r = some (.int x)) := by
  refine zK_of qX5_here (by decide +kernel) rfl ?_
  iterate 4 (refine zv_step (bX5_here 0) rfl rfl trivial ?_)
  refine zv_iale (bX5_here 0) rfl rfl (show vp_in (O 14) 40 by rw [h14]; exact vp_in_nI hd (by decide)) (show P 56 (O 14).toNatClampNeg = x by rw [h14, nI_clamp (by omega)]; exact hx) ?_
  exact zv_iret (bX5_here 0) rfl (Or.inl rfl) (Nat.zero_le _) (Nat.zero_le _) ⟨rfl, rfl⟩
set_option maxHeartbeats 1000000 in
set_option maxRecDepth 20000 in
theorem cCopy (O : Nat → Int32) (P : Nat → Nat → Int32) (Y : Nat → Nat → Int64) (g : Nat → zC) (hsh : ∀ s, s < 8 → ∃ m : Nat, m ≤ 60 ∧ O (24 + 10 * s) = nI m) (x i y j n : Int32) : zK 1 zX6_copy [.ref 0, .int x, .int i, .int y, .int j, .int n] (wX O P Y g) (fun r w' => ∃ (O' : Nat → Int32) (P' : Nat → Nat → Int32) (R : Int32) (s : Nat), s < 8 ∧ r = some (.int R) ∧ w' = wX O' P' Y g ∧ shW O P s O' P') := by
  refine zK_of qX6_copy (by decide +kernel) rfl ?_
  iterate 1 (refine zv_step (bX6_copy 1) rfl rfl trivial ?_)
  refine zv_S1 (bX6_copy 1) rfl rfl rfl rfl ⟨rfl, rfl, rfl⟩ ⟨by decide, by decide⟩ ⟨Nat.zero_le _, Nat.zero_le _⟩ (hX6_isShelf _ _) ?_
  rintro _ _ ⟨rfl, ⟨q1, rfl⟩ | ⟨q1, rfl⟩⟩
  · obtain ⟨s, hs, rfl⟩ := sh_of q1
    iterate 1 (refine zv_step (bX6_copy 1) rfl rfl trivial ?_)
    refine zv_iff (by decide) ?_
    iterate 1 (refine zv_step (bX6_copy 1) rfl rfl trivial ?_)
    refine zv_S1 (bX6_copy 1) rfl rfl rfl rfl ⟨rfl, rfl, rfl⟩ ⟨by decide, by decide⟩ ⟨Nat.zero_le _, Nat.zero_le _⟩ (hX6_isShelf _ _) ?_
    rintro _ _ ⟨rfl, ⟨q2, rfl⟩ | ⟨q2, rfl⟩⟩
    · obtain ⟨t, ht, rfl⟩ := sh_of q2
      iterate 1 (refine zv_step (bX6_copy 1) rfl rfl trivial ?_)
      refine zv_ift (by decide) ?_
      iterate 1 (refine zv_step (bX6_copy 1) rfl rfl trivial ?_)
      refine zv_getf (bX6_copy 1) rfl (rfl) rfl ?_
      iterate 1 (refine zv_step (bX6_copy 1) rfl rfl trivial ?_)
      refine zv_aald (bX6_copy 1) rfl (Or.inl rfl) rfl (show vp_in (nI s) 8 from vp_in_nI (by omega) (by decide)) (show ([some 59, some 61, some 63, some 65, some 67, some 69, some 71, some 73] : List (Option Nat)).getD (nI s).toNatClampNeg none = some (59 + 2 * s) by rw [nI_clamp (by omega)]; exact dSs hs) ?_
      iterate 2 (refine zv_step (bX6_copy 1) rfl rfl trivial ?_)
      refine zv_getf (bX6_copy 1) rfl (rfl) rfl ?_
      iterate 1 (refine zv_step (bX6_copy 1) rfl rfl trivial ?_)
      refine zv_aald (bX6_copy 1) rfl (Or.inl rfl) rfl (show vp_in (nI t) 8 from vp_in_nI (by omega) (by decide)) (show ([some 59, some 61, some 63, some 65, some 67, some 69, some 71, some 73] : List (Option Nat)).getD (nI t).toNatClampNeg none = some (59 + 2 * t) by rw [nI_clamp (by omega)]; exact dSs ht) ?_
      iterate 2 (refine zv_step (bX6_copy 1) rfl rfl trivial ?_)
      refine zv_getf (bX6_copy 1) rfl (wS O P Y g hs) rfl ?_
      iterate 1 (refine zv_step (bX6_copy 1) rfl rfl trivial ?_)
      refine zv_ifb (fun h37 => ?_) (fun h37 => ?_)
      · iterate 1 (refine zv_step (bX6_copy 1) rfl rfl trivial ?_)
        exact zv_iret (bX6_copy 1) rfl (Or.inl rfl) (Nat.zero_le _) (Nat.zero_le _) ⟨O, P, _, 0, by decide, rfl, rfl, shW_refl O P 0⟩
      · iterate 1 (refine zv_step (bX6_copy 1) rfl rfl trivial ?_)
        refine zv_getf (bX6_copy 1) rfl (wS O P Y g ht) rfl ?_
        iterate 1 (refine zv_step (bX6_copy 1) rfl rfl trivial ?_)
        refine zv_ifb (fun h45 => ?_) (fun h45 => ?_)
        · iterate 1 (refine zv_step (bX6_copy 1) rfl rfl trivial ?_)
          refine zv_V0 (bX6_copy 1) rfl rfl rfl (wS O P Y g hs) rfl rfl rfl ⟨rfl, rfl, rfl⟩ ⟨by decide, by decide⟩ ⟨Nat.zero_le _, Nat.zero_le _⟩ (hHasRow O P Y g hs) ?_
          rintro _ _ ⟨rfl, ⟨q3, rfl⟩ | ⟨q3, rfl⟩⟩
          · skip
            iterate 1 (refine zv_step (bX6_copy 1) rfl rfl trivial ?_)
            refine zv_iff (by decide) ?_
            iterate 1 (refine zv_step (bX6_copy 1) rfl rfl trivial ?_)
            refine zv_getf (bX6_copy 1) rfl (wS O P Y g hs) rfl ?_
            iterate 1 (refine zv_step (bX6_copy 1) rfl rfl trivial ?_)
            refine zv_getf (bX6_copy 1) rfl (wS O P Y g ht) rfl ?_
            iterate 1 (refine zv_step (bX6_copy 1) rfl rfl trivial ?_)
            refine zv_ifb (fun h69 => ?_) (fun h69 => ?_)
            · iterate 3 (refine zv_step (bX6_copy 1) rfl rfl trivial ?_)
              refine zv_V2 (bX6_copy 1) rfl rfl rfl (wS O P Y g hs) rfl rfl rfl ⟨rfl, rfl, rfl⟩ ⟨by decide, by decide⟩ ⟨Nat.zero_le _, Nat.zero_le _⟩ (hHasSpan O P Y g hs _ _) ?_
              rintro _ _ ⟨rfl, ⟨q4, rfl⟩ | ⟨q4, rfl⟩⟩
              · skip
                iterate 1 (refine zv_step (bX6_copy 1) rfl rfl trivial ?_)
                refine zv_iff (by decide) ?_
                iterate 3 (refine zv_step (bX6_copy 1) rfl rfl trivial ?_)
                refine zv_V2 (bX6_copy 1) rfl rfl rfl (wS O P Y g ht) rfl rfl rfl ⟨rfl, rfl, rfl⟩ ⟨by decide, by decide⟩ ⟨Nat.zero_le _, Nat.zero_le _⟩ (hHasSpan O P Y g ht _ _) ?_
                rintro _ _ ⟨rfl, ⟨q5, rfl⟩ | ⟨q5, rfl⟩⟩
                · skip
                  iterate 1 (refine zv_step (bX6_copy 1) rfl rfl trivial ?_)
                  refine zv_ift (by decide) ?_
                  iterate 1 (refine zv_step (bX6_copy 1) rfl rfl trivial ?_)
                  refine zv_getf (bX6_copy 1) rfl (wS O P Y g hs) rfl ?_
                  iterate 2 (refine zv_step (bX6_copy 1) rfl rfl trivial ?_)
                  refine zv_getf (bX6_copy 1) rfl (wS O P Y g ht) rfl ?_
                  iterate 2 (refine zv_step (bX6_copy 1) rfl rfl trivial ?_)
                  obtain ⟨m1, hm1, e1⟩ := hsh s hs
                  obtain ⟨m2, hm2, e2⟩ := hsh t ht
                  rw [e1] at q4
                  rw [e2] at q5
                  have k4 := span_le hm1 q4
                  have k5 := span_le hm2 q5
                  refine zv_copyI (bX6_copy 1) rfl zCopyM rfl ⟨by decide, by decide⟩ (wSr O P Y g hs) (wSr O P Y g ht) k4.2.1 k5.2.1 k4.2.2 k4.1 k5.1 ?_
                  rw [wSrset O P Y g _ ht]
                  iterate 1 (refine zv_step (bX6_copy 1) rfl rfl trivial ?_)
                  exact zv_iret (bX6_copy 1) rfl (Or.inl rfl) (Nat.zero_le _) (Nat.zero_le _) ⟨O, _, _, t, ht, rfl, rfl, fun _ _ => rfl, fun i hi => updA_ne _ _ hi, Or.inl rfl⟩
                · skip
                  iterate 1 (refine zv_step (bX6_copy 1) rfl rfl trivial ?_)
                  refine zv_iff (by decide) ?_
                  iterate 1 (refine zv_step (bX6_copy 1) rfl rfl trivial ?_)
                  exact zv_iret (bX6_copy 1) rfl (Or.inl rfl) (Nat.zero_le _) (Nat.zero_le _) ⟨O, P, _, 0, by decide, rfl, rfl, shW_refl O P 0⟩
              · skip
                iterate 1 (refine zv_step (bX6_copy 1) rfl rfl trivial ?_)
                refine zv_ift (by decide) ?_
                iterate 1 (refine zv_step (bX6_copy 1) rfl rfl trivial ?_)
                exact zv_iret (bX6_copy 1) rfl (Or.inl rfl) (Nat.zero_le _) (Nat.zero_le _) ⟨O, P, _, 0, by decide, rfl, rfl, shW_refl O P 0⟩
            · iterate 1 (refine zv_step (bX6_copy 1) rfl rfl trivial ?_)
              exact zv_iret (bX6_copy 1) rfl (Or.inl rfl) (Nat.zero_le _) (Nat.zero_le _) ⟨O, P, _, 0, by decide, rfl, rfl, shW_refl O P 0⟩
          · skip
            iterate 1 (refine zv_step (bX6_copy 1) rfl rfl trivial ?_)
            refine zv_ift (by decide) ?_
            iterate 1 (refine zv_step (bX6_copy 1) rfl rfl trivial ?_)
            exact zv_iret (bX6_copy 1) rfl (Or.inl rfl) (Nat.zero_le _) (Nat.zero_le _) ⟨O, P, _, 0, by decide, rfl, rfl, shW_refl O P 0⟩
        · iterate 1 (refine zv_step (bX6_copy 1) rfl rfl trivial ?_)
          exact zv_iret (bX6_copy 1) rfl (Or.inl rfl) (Nat.zero_le _) (Nat.zero_le _) ⟨O, P, _, 0, by decide, rfl, rfl, shW_refl O P 0⟩
    · skip
      iterate 1 (refine zv_step (bX6_copy 1) rfl rfl trivial ?_)
      refine zv_iff (by decide) ?_
      iterate 1 (refine zv_step (bX6_copy 1) rfl rfl trivial ?_)
      exact zv_iret (bX6_copy 1) rfl (Or.inl rfl) (Nat.zero_le _) (Nat.zero_le _) ⟨O, P, _, 0, by decide, rfl, rfl, shW_refl O P 0⟩
  · skip
    iterate 1 (refine zv_step (bX6_copy 1) rfl rfl trivial ?_)
    refine zv_ift (by decide) ?_
    iterate 1 (refine zv_step (bX6_copy 1) rfl rfl trivial ?_)
    exact zv_iret (bX6_copy 1) rfl (Or.inl rfl) (Nat.zero_le _) (Nat.zero_le _) ⟨O, P, _, 0, by decide, rfl, rfl, shW_refl O P 0⟩
end
section
def rdv (g : Nat → Int32) (x : Int32) : Int32 := if 0 ≤ x then g x.toNatClampNeg else Int32.ofInt 0
def mxv (a b : Int32) : Int32 := if a ≤ b then b else a
/-- what sets writes -/
def setsA (A : Nat → Nat → Int32) (n : Nat) (k v x y : Int32) : Nat → Nat → Int32 := updA (updA (updA (updA (updA (updA A 0 (upd (A 0) n k)) 1 (upd (A 1) n v)) 2 (upd (A 2) n x)) 3 (upd (A 3) n y)) 4 (upd (A 4) n (Int32.ofInt 1 + rdv (A 4) x + rdv (A 4) y))) 5 (upd (A 5) n (Int32.ofInt 1 + mxv (rdv (A 5) x) (rdv (A 5) y)))
set_option maxHeartbeats 1000000 in
set_option maxRecDepth 20000 in
theorem mSets (f : Nat → zC) (o : Nat → Int32) (A : Nat → Nat → Int32) (J : Nat → Nat → Int64) {n k v x y : Int32} (hat : vp_in n 450) (hx : 0 ≤ x → vp_in x 450) (hy : 0 ≤ y → vp_in y 450) : zK 0 zX7_sets [.ref 76, .int n, .int k, .int v, .int x, .int y] (wR f o A J) (fun r w' => r = none ∧ w' = wR f o (setsA A n.toNatClampNeg k v x y) J) := by
  refine zK_of qX7_sets (by decide +kernel) rfl ?_
  iterate 4 (refine zv_step (bX7_sets 0) rfl rfl trivial ?_)
  refine zv_step (bX7_sets 0) rfl rfl (hat) ?_
  iterate 4 (refine zv_step (bX7_sets 0) rfl rfl trivial ?_)
  refine zv_step (bX7_sets 0) rfl rfl (hat) ?_
  iterate 4 (refine zv_step (bX7_sets 0) rfl rfl trivial ?_)
  refine zv_step (bX7_sets 0) rfl rfl (hat) ?_
  iterate 4 (refine zv_step (bX7_sets 0) rfl rfl trivial ?_)
  refine zv_step (bX7_sets 0) rfl rfl (hat) ?_
  iterate 6 (refine zv_step (bX7_sets 0) rfl rfl trivial ?_)
  refine zv_ifb (fun hx0 => ?_) (fun hx0 => ?_)
  · iterate 3 (refine zv_step (bX7_sets 0) rfl rfl trivial ?_)
    refine zv_step (bX7_sets 0) rfl rfl (hx hx0) ?_
    iterate 3 (refine zv_step (bX7_sets 0) rfl rfl trivial ?_)
    refine zv_ifb (fun hy0 => ?_) (fun hy0 => ?_)
    · iterate 3 (refine zv_step (bX7_sets 0) rfl rfl trivial ?_)
      refine zv_step (bX7_sets 0) rfl rfl (hy hy0) ?_
      iterate 1 (refine zv_step (bX7_sets 0) rfl rfl trivial ?_)
      refine zv_step (bX7_sets 0) rfl rfl (hat) ?_
      iterate 2 (refine zv_step (bX7_sets 0) rfl rfl trivial ?_)
      refine zv_ift (hx0) ?_
      iterate 3 (refine zv_step (bX7_sets 0) rfl rfl trivial ?_)
      refine zv_step (bX7_sets 0) rfl rfl (hx hx0) ?_
      iterate 3 (refine zv_step (bX7_sets 0) rfl rfl trivial ?_)
      refine zv_ift (hy0) ?_
      iterate 3 (refine zv_step (bX7_sets 0) rfl rfl trivial ?_)
      refine zv_step (bX7_sets 0) rfl rfl (hy hy0) ?_
      iterate 8 (refine zv_step (bX7_sets 0) rfl rfl trivial ?_)
      refine zv_ifb (fun hc => ?_) (fun hc => ?_)
      · iterate 2 (refine zv_step (bX7_sets 0) rfl rfl trivial ?_)
        refine zv_step (bX7_sets 0) rfl rfl (hat) ?_
        exact zv_ret (bX7_sets 0) rfl rfl (Nat.zero_le _) (Nat.zero_le _) ⟨rfl, by unfold setsA mxv rdv; simp only [hx0, hy0, hc, if_true, if_false]; rfl⟩
      · iterate 3 (refine zv_step (bX7_sets 0) rfl rfl trivial ?_)
        refine zv_step (bX7_sets 0) rfl rfl (hat) ?_
        exact zv_ret (bX7_sets 0) rfl rfl (Nat.zero_le _) (Nat.zero_le _) ⟨rfl, by unfold setsA mxv rdv; simp only [hx0, hy0, hc, if_true, if_false]; rfl⟩
    · iterate 3 (refine zv_step (bX7_sets 0) rfl rfl trivial ?_)
      refine zv_step (bX7_sets 0) rfl rfl (hat) ?_
      iterate 2 (refine zv_step (bX7_sets 0) rfl rfl trivial ?_)
      refine zv_ift (hx0) ?_
      iterate 3 (refine zv_step (bX7_sets 0) rfl rfl trivial ?_)
      refine zv_step (bX7_sets 0) rfl rfl (hx hx0) ?_
      iterate 3 (refine zv_step (bX7_sets 0) rfl rfl trivial ?_)
      refine zv_iff (hy0) ?_
      iterate 10 (refine zv_step (bX7_sets 0) rfl rfl trivial ?_)
      refine zv_ifb (fun hc => ?_) (fun hc => ?_)
      · iterate 2 (refine zv_step (bX7_sets 0) rfl rfl trivial ?_)
        refine zv_step (bX7_sets 0) rfl rfl (hat) ?_
        exact zv_ret (bX7_sets 0) rfl rfl (Nat.zero_le _) (Nat.zero_le _) ⟨rfl, by unfold setsA mxv rdv; simp only [hx0, hy0, hc, if_true, if_false]; rfl⟩
      · iterate 3 (refine zv_step (bX7_sets 0) rfl rfl trivial ?_)
        refine zv_step (bX7_sets 0) rfl rfl (hat) ?_
        exact zv_ret (bX7_sets 0) rfl rfl (Nat.zero_le _) (Nat.zero_le _) ⟨rfl, by unfold setsA mxv rdv; simp only [hx0, hy0, hc, if_true, if_false]; rfl⟩
  · iterate 5 (refine zv_step (bX7_sets 0) rfl rfl trivial ?_)
    refine zv_ifb (fun hy0 => ?_) (fun hy0 => ?_)
    · iterate 3 (refine zv_step (bX7_sets 0) rfl rfl trivial ?_)
      refine zv_step (bX7_sets 0) rfl rfl (hy hy0) ?_
      iterate 1 (refine zv_step (bX7_sets 0) rfl rfl trivial ?_)
      refine zv_step (bX7_sets 0) rfl rfl (hat) ?_
      iterate 2 (refine zv_step (bX7_sets 0) rfl rfl trivial ?_)
      refine zv_iff (hx0) ?_
      iterate 5 (refine zv_step (bX7_sets 0) rfl rfl trivial ?_)
      refine zv_ift (hy0) ?_
      iterate 3 (refine zv_step (bX7_sets 0) rfl rfl trivial ?_)
      refine zv_step (bX7_sets 0) rfl rfl (hy hy0) ?_
      iterate 8 (refine zv_step (bX7_sets 0) rfl rfl trivial ?_)
      refine zv_ifb (fun hc => ?_) (fun hc => ?_)
      · iterate 2 (refine zv_step (bX7_sets 0) rfl rfl trivial ?_)
        refine zv_step (bX7_sets 0) rfl rfl (hat) ?_
        exact zv_ret (bX7_sets 0) rfl rfl (Nat.zero_le _) (Nat.zero_le _) ⟨rfl, by unfold setsA mxv rdv; simp only [hx0, hy0, hc, if_true, if_false]; rfl⟩
      · iterate 3 (refine zv_step (bX7_sets 0) rfl rfl trivial ?_)
        refine zv_step (bX7_sets 0) rfl rfl (hat) ?_
        exact zv_ret (bX7_sets 0) rfl rfl (Nat.zero_le _) (Nat.zero_le _) ⟨rfl, by unfold setsA mxv rdv; simp only [hx0, hy0, hc, if_true, if_false]; rfl⟩
    · iterate 3 (refine zv_step (bX7_sets 0) rfl rfl trivial ?_)
      refine zv_step (bX7_sets 0) rfl rfl (hat) ?_
      iterate 2 (refine zv_step (bX7_sets 0) rfl rfl trivial ?_)
      refine zv_iff (hx0) ?_
      iterate 5 (refine zv_step (bX7_sets 0) rfl rfl trivial ?_)
      refine zv_iff (hy0) ?_
      iterate 10 (refine zv_step (bX7_sets 0) rfl rfl trivial ?_)
      refine zv_ifb (fun hc => ?_) (fun hc => ?_)
      · iterate 2 (refine zv_step (bX7_sets 0) rfl rfl trivial ?_)
        refine zv_step (bX7_sets 0) rfl rfl (hat) ?_
        exact zv_ret (bX7_sets 0) rfl rfl (Nat.zero_le _) (Nat.zero_le _) ⟨rfl, by unfold setsA mxv rdv; simp only [hx0, hy0, hc, if_true, if_false]; rfl⟩
      · iterate 3 (refine zv_step (bX7_sets 0) rfl rfl trivial ?_)
        refine zv_step (bX7_sets 0) rfl rfl (hat) ?_
        exact zv_ret (bX7_sets 0) rfl rfl (Nat.zero_le _) (Nat.zero_le _) ⟨rfl, by unfold setsA mxv rdv; simp only [hx0, hy0, hc, if_true, if_false]; rfl⟩
/-- .. with so many words said, and these -/
abbrev wQ (f : Nat → zC) (o : Nat → Int32) (A : Nat → Nat → Int32) (J : Nat → Nat → Int64) (q : Nat) (g : Nat → Int32) : zW := wR f (upd o 18 (nI q)) (updA A 14 g) J
/-- a row with words put behind each other from a place on -/
def appA : (Nat → Int32) → Nat → List Int32 → Nat → Int32
  | g, _, [] => g
  | g, q, v :: L => appA (upd g q v) (q + 1) L
theorem appA_app : ∀ (L M : List Int32) (g : Nat → Int32) (q : Nat), appA g q (L ++ M) = appA (appA g q L) (q + L.length) M
  | [], M, g, q => rfl
  | v :: L, M, g, q => by
    show appA (upd g q v) (q + 1) (L ++ M) = appA (appA (upd g q v) (q + 1) L) (q + (L.length + 1)) M
    rw [appA_app L M, show q + 1 + L.length = q + (L.length + 1) by omega]
theorem appA_lo : ∀ (L : List Int32) (g : Nat → Int32) (q i : Nat), i < q → appA g q L i = g i
  | [], g, q, i, h => rfl
  | v :: L, g, q, i, h => by
    show appA (upd g q v) (q + 1) L i = g i
    rw [appA_lo L _ _ i (by omega)]
    exact if_neg (by omega)
theorem appA_at : ∀ (L : List Int32) (g : Nat → Int32) (q i : Nat) {v : Int32}, L[i]? = some v → appA g q L (q + i) = v
  | [], g, q, i, v, h => by cases h
  | u :: L, g, q, 0, v, h => by
    show appA (upd g q u) (q + 1) L (q + 0) = v
    rw [appA_lo L _ _ _ (by omega)]
    cases h
    exact if_pos rfl
  | u :: L, g, q, i + 1, v, h => by
    show appA (upd g q u) (q + 1) L (q + (i + 1)) = v
    rw [show q + (i + 1) = q + 1 + i by omega]
    exact appA_at L _ _ i h
set_option maxHeartbeats 4000000 in
set_option maxRecDepth 20000 in
theorem mSays (f : Nat → zC) (o : Nat → Int32) (A : Nat → Nat → Int32) (J : Nat → Nat → Int64) (q : Nat) (g : Nat → Int32) (hq : q < 256) (v : Int32) : zK 0 zX7_says [.ref 76, .int v] (wQ f o A J q g) (fun r w' => r = none ∧ w' = wQ f o A J (q + 1) (upd g q v)) := by
  have e1 : (nI q).toNatClampNeg = q := nI_clamp (by omega)
  have e2 : nI q + Int32.ofInt 1 = nI (q + 1) := nI_1 q
  refine zK_of qX7_says (by decide +kernel) rfl ?_
  iterate 5 (refine zv_step (bX7_says 0) rfl rfl trivial ?_)
  refine zv_step (bX7_says 0) rfl rfl (show vp_in (nI q) 256 from vp_in_nI hq (by decide)) ?_
  iterate 6 (refine zv_step (bX7_says 0) rfl rfl trivial ?_)
  refine zv_ret (bX7_says 0) rfl rfl (Nat.zero_le _) (Nat.zero_le _) ⟨rfl, ?_⟩
  show wR f (upd o 18 (nI q + Int32.ofInt 1)) (updA A 14 (upd g (nI q).toNatClampNeg v)) J = _
  rw [e1, e2]
abbrev m2 : Int32 := c8 (-2)
/-- the SIZE that stands at a place of the table -/
def szN (A : Nat → Nat → Int32) (n : Nat) : Nat := (A 4 n).toNatClampNeg
/-- a NODE of the table, its PARTS at places from lo on and below it -/
def rN (lo : Nat) (A : Nat → Nat → Int32) (n : Nat) : Prop :=
  ∃ k z : Nat, A 0 n = nI k ∧ k < 10 ∧ A 4 n = nI z ∧ z ≤ 40 ∧
   ((k < 2 ∧ A 2 n = m2 ∧ A 3 n = m2 ∧ z = 1) ∨
    (2 ≤ k ∧ k ≤ 6 ∧ ∃ a b : Nat, A 2 n = nI a ∧ lo ≤ a ∧ a < n ∧ A 3 n = nI b ∧ lo ≤ b ∧ b < n ∧ z = 1 + szN A a + szN A b) ∨
    (7 ≤ k ∧ ∃ a : Nat, A 2 n = nI a ∧ lo ≤ a ∧ a < n ∧ A 3 n = m2 ∧ z = 1 + szN A a)) ∧
   ((k = 0 ∨ k = 9 → ∃ v : Nat, v ≤ 9 ∧ A 1 n = nI v) ∧ (k = 1 → ∃ v : Nat, v ≤ 9999 ∧ A 1 n = nI v) ∧ (2 ≤ k → k ≤ 8 → A 1 n = m2))
def tbI (lo hi : Nat) (A : Nat → Nat → Int32) : Prop := ∀ n, lo ≤ n → n < hi → rN lo A n
/-- none, or a NODE of a SIZE of at most z -/
def pt (lo hi : Nat) (A : Nat → Nat → Int32) (z : Nat) (x : Int32) : Prop := x = m2 ∨ ∃ n : Nat, x = nI n ∧ lo ≤ n ∧ n < hi ∧ szN A n ≤ z
theorem szN_of {A : Nat → Nat → Int32} {n z : Nat} (h : A 4 n = nI z) (hz : z ≤ 40) : szN A n = z := by
  unfold szN
  rw [h, nI_clamp (by omega)]
theorem rN_sz {lo n : Nat} {A : Nat → Nat → Int32} (h : rN lo A n) : 1 ≤ szN A n ∧ szN A n ≤ 40 ∧ A 4 n = nI (szN A n) := by
  obtain ⟨k, z, _, _, h4, hz, hs, _⟩ := h
  rw [szN_of h4 hz]
  refine ⟨?_, hz, h4⟩
  rcases hs with ⟨_, _, _, e⟩ | ⟨_, _, _, _, _, _, _, _, _, _, e⟩ | ⟨_, _, _, _, _, _, e⟩ <;> omega
theorem rN_parts {lo hi n z : Nat} {A : Nat → Nat → Int32} (hT : tbI lo hi A) (hlo : lo ≤ n) (hn : n < hi) (hz : szN A n ≤ z + 1) : pt lo hi A z (A 2 n) ∧ pt lo hi A z (A 3 n) := by
  obtain ⟨k, y, _, _, h4, hy, hs, _⟩ := hT n hlo hn
  rw [szN_of h4 hy] at hz
  rcases hs with ⟨_, h2, h3, e⟩ | ⟨_, _, a, b, h2, la, ha, h3, lb, hb, e⟩ | ⟨_, a, h2, la, ha, h3, e⟩
  · exact ⟨Or.inl h2, Or.inl h3⟩
  · exact ⟨Or.inr ⟨a, h2, la, by omega, by omega⟩, Or.inr ⟨b, h3, lb, by omega, by omega⟩⟩
  · exact ⟨Or.inr ⟨a, h2, la, by omega, by omega⟩, Or.inl h3⟩
theorem pt_zero {lo hi : Nat} {A : Nat → Nat → Int32} (hT : tbI lo hi A) {x : Int32} (h : pt lo hi A 0 x) : m2 = x := by
  rcases h with rfl | ⟨n, _, hlo, hn, hz⟩
  · rfl
  · have := (rN_sz (hT n hlo hn)).1
    omega
theorem pt_of {lo hi n : Nat} {A : Nat → Nat → Int32} (hT : tbI lo hi A) (hlo : lo ≤ n) (hn : n < hi) : pt lo hi A 40 (nI n) := Or.inr ⟨n, rfl, hlo, hn, (rN_sz (hT n hlo hn)).2.1⟩
theorem rN_kd {lo n : Nat} {A : Nat → Nat → Int32} (h : rN lo A n) : ∃ k : Nat, k < 10 ∧ A 0 n = nI k := by
  obtain ⟨k, _, e, hk, _⟩ := h
  exact ⟨k, hk, e⟩
theorem rN_let {lo n : Nat} {A : Nat → Nat → Int32} (h : rN lo A n) (e : A 0 n = 0 ∨ A 0 n = c8 9) : ∃ v : Nat, v ≤ 9 ∧ A 1 n = nI v := by
  obtain ⟨k, _, ek, hk, _, _, _, hv, _⟩ := h
  refine hv ?_
  rw [ek] at e
  rcases e with e | e
  · exact Or.inl ((nI_eq (by omega) (by decide)).mp (e.trans nI_0.symm))
  · exact Or.inr ((nI_eq (by omega) (by decide)).mp (e.trans (show c8 9 = nI 9 from rfl)))
theorem rN_fr {lo n : Nat} {A A' : Nat → Nat → Int32} (h : rN lo A n) (hlo : lo ≤ n) (e : ∀ r, r < 5 → ∀ i, lo ≤ i → i ≤ n → A' r i = A r i) : rN lo A' n := by
  obtain ⟨k, z, h0, hk, h4, hz, hs, hv⟩ := h
  have es : ∀ i, lo ≤ i → i ≤ n → szN A' i = szN A i := fun i a b => by
    unfold szN
    rw [e 4 (by decide) i a b]
  refine ⟨k, z, (e 0 (by decide) n hlo (Nat.le_refl _)).trans h0, hk, (e 4 (by decide) n hlo (Nat.le_refl _)).trans h4, hz, ?_, ?_⟩
  · rw [e 2 (by decide) n hlo (Nat.le_refl _), e 3 (by decide) n hlo (Nat.le_refl _)]
    rcases hs with h | ⟨k1, k2, a, b, h2, la, ha, h3, lb, hb, ez⟩ | ⟨k1, a, h2, la, ha, h3, ez⟩
    · exact Or.inl h
    · exact Or.inr (Or.inl ⟨k1, k2, a, b, h2, la, ha, h3, lb, hb, by rw [es a la (by omega), es b lb (by omega)]; exact ez⟩)
    · exact Or.inr (Or.inr ⟨k1, a, h2, la, ha, h3, by rw [es a la (by omega)]; exact ez⟩)
  · rw [e 1 (by decide) n hlo (Nat.le_refl _)]
    exact hv
theorem tbI_fr {lo hi : Nat} {A A' : Nat → Nat → Int32} (h : tbI lo hi A) (e : ∀ r, r < 5 → ∀ i, lo ≤ i → i < hi → A' r i = A r i) : tbI lo hi A' := fun n a b => rN_fr (h n a b) a (fun r hr i hi1 hi2 => e r hr i hi1 (by omega))
theorem tbI_le {lo hi hi' : Nat} {A : Nat → Nat → Int32} (h : tbI lo hi A) (hl : hi' ≤ hi) : tbI lo hi' A := fun n a b => h n a (by omega)
theorem rdv_nI {g : Nat → Int32} {n : Nat} (h : n < 2 ^ 31) : rdv g (nI n) = g n := by
  unfold rdv
  rw [if_pos (nI_pos' h), nI_clamp h]
theorem rdv_m2 (g : Nat → Int32) : rdv g m2 = Int32.ofInt 0 := if_neg (by decide)
theorem vpm2 {n : Nat} : 0 ≤ m2 → vp_in m2 n := fun h => absurd h (by decide)
theorem setsA_o {A : Nat → Nat → Int32} {n i r : Nat} {k v x y : Int32} (h : i ≠ n) : setsA A n k v x y r i = A r i := by
  unfold setsA updA
  split
  · rename_i e; subst e; exact upd_ne _ _ h
  · split
    · rename_i e; subst e; exact upd_ne _ _ h
    · split
      · rename_i e; subst e; exact upd_ne _ _ h
      · split
        · rename_i e; subst e; exact upd_ne _ _ h
        · split
          · rename_i e; subst e; exact upd_ne _ _ h
          · split
            · rename_i e; subst e; exact upd_ne _ _ h
            · rfl
theorem setsA_r {A : Nat → Nat → Int32} {n r : Nat} {k v x y : Int32} (h : 6 ≤ r) : setsA A n k v x y r = A r := by
  unfold setsA
  rw [updA_ne _ _ (by omega), updA_ne _ _ (by omega), updA_ne _ _ (by omega), updA_ne _ _ (by omega), updA_ne _ _ (by omega), updA_ne _ _ (by omega)]
/-- sets puts a NODE at the end of the table -/
theorem tbI_sets {lo n : Nat} {A : Nat → Nat → Int32} (hT : tbI lo n A) (hlo : lo ≤ n) (hn : n < 450) {k : Nat} {v x y : Int32} (hk : k < 10)
    (hs : (k < 2 ∧ x = m2 ∧ y = m2) ∨ (2 ≤ k ∧ k ≤ 6 ∧ ∃ a b : Nat, x = nI a ∧ lo ≤ a ∧ a < n ∧ y = nI b ∧ lo ≤ b ∧ b < n ∧ 1 + szN A a + szN A b ≤ 40) ∨ (7 ≤ k ∧ ∃ a : Nat, x = nI a ∧ lo ≤ a ∧ a < n ∧ y = m2 ∧ 1 + szN A a ≤ 40))
    (hv : (k = 0 ∨ k = 9 → ∃ w : Nat, w ≤ 9 ∧ v = nI w) ∧ (k = 1 → ∃ w : Nat, w ≤ 9999 ∧ v = nI w) ∧ (2 ≤ k → k ≤ 8 → v = m2)) : tbI lo (n + 1) (setsA A n (nI k) v x y) := by
  intro m hm1 hm2
  by_cases e : m = n
  · subst e
    have f0 : setsA A m (nI k) v x y 0 m = nI k := upd_self _ _ _
    have f1 : setsA A m (nI k) v x y 1 m = v := upd_self _ _ _
    have f2 : setsA A m (nI k) v x y 2 m = x := upd_self _ _ _
    have f3 : setsA A m (nI k) v x y 3 m = y := upd_self _ _ _
    have f4 : setsA A m (nI k) v x y 4 m = Int32.ofInt 1 + rdv (A 4) x + rdv (A 4) y := upd_self _ _ _
    have fs : ∀ a, a < m → szN (setsA A m (nI k) v x y) a = szN A a := fun a ha => by
      unfold szN
      rw [setsA_o (by omega)]
    have e1 : Int32.ofInt 1 = nI 1 := rfl
    have e0 : Int32.ofInt 0 = nI 0 := rfl
    rcases hs with ⟨hk2, rfl, rfl⟩ | ⟨k1, k2, a, b, rfl, la, ha, rfl, lb, hb, hz⟩ | ⟨k1, a, rfl, la, ha, rfl, hz⟩
    · refine ⟨k, 1, f0, hk, ?_, by decide, Or.inl ⟨hk2, f2, f3, rfl⟩, by rw [f1]; exact hv⟩
      rw [f4, rdv_m2]
      decide
    · refine ⟨k, 1 + szN A a + szN A b, f0, hk, ?_, hz, Or.inr (Or.inl ⟨k1, k2, a, b, f2, la, ha, f3, lb, hb, by rw [fs a ha, fs b hb]⟩), by rw [f1]; exact hv⟩
      rw [f4, rdv_nI (by omega), rdv_nI (by omega), (rN_sz (hT a la ha)).2.2, (rN_sz (hT b lb hb)).2.2, e1, nI_add, nI_add]
    · refine ⟨k, 1 + szN A a, f0, hk, ?_, hz, Or.inr (Or.inr ⟨k1, a, f2, la, ha, f3, by rw [fs a ha]⟩), by rw [f1]; exact hv⟩
      rw [f4, rdv_nI (by omega), rdv_m2, (rN_sz (hT a la ha)).2.2, e1, e0, nI_add, nI_add]
      rfl
  · exact rN_fr (hT m hm1 (by omega)) hm1 (fun r _ i hi1 hi2 => setsA_o (by omega))
def blI (A : Nat → Nat → Int32) : Prop := (∀ i, A 6 i = 0 ∨ A 6 i = 1) ∧ (∀ i, A 7 i = 0 ∨ A 7 i = 1)
end
