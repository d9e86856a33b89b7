set_option maxHeartbeats 1000000 in
set_option maxRecDepth 20000 in
theorem mWords (f : Nat → zC) (o : Nat → Int32) (A : Nat → Nat → Int32) (J : Nat → Nat → Int64) {u : Nat} (hu : u ≤ 120) (ho : o 0 = nI u) (hT : tbI 0 u A) (x y : Int32) : zK 43 zX7_words [.ref 76, .int x, .int y] (wR f o A J) (fun r w' => w' = (wR f o A J) ∧ ∃ v : Int32, r = some (.int v)) := by
  refine zK_of qX7_words (by decide +kernel) rfl ?_
  iterate 1 (refine zv_step (bX7_words 43) rfl rfl trivial ?_)
  refine zv_S1 (bX7_words 43) rfl rfl rfl rfl ⟨rfl, rfl, rfl⟩ ⟨by decide, by decide⟩ ⟨Nat.zero_le _, Nat.zero_le _⟩ (hX7_isStyle _ _) ?_
  rintro _ _ ⟨rfl, ⟨g1, rfl⟩ | ⟨g1, rfl⟩⟩
  · obtain ⟨s, hs, rfl⟩ := in_nat (x := x) (b := 7) (by decide) g1
    iterate 1 (refine zv_step (bX7_words 43) rfl rfl trivial ?_)
    refine zv_iff (by decide) ?_
    iterate 2 (refine zv_step (bX7_words 43) rfl rfl trivial ?_)
    refine zv_V1 (bX7_words 43) rfl rfl rfl rfl rfl rfl rfl ⟨rfl, rfl, rfl⟩ ⟨by decide, by decide⟩ ⟨Nat.zero_le _, Nat.zero_le _⟩ (mIsNode f o A J hu ho _) ?_
    rintro _ _ ⟨rfl, ⟨g2, rfl⟩ | ⟨g2, rfl⟩⟩
    · obtain ⟨n, hn, rfl⟩ := nd_of (by omega) g2
      iterate 1 (refine zv_step (bX7_words 43) rfl rfl trivial ?_)
      refine zv_ift (by decide) ?_
      iterate 3 (refine zv_step (bX7_words 43) rfl rfl trivial ?_)
      refine zv_V2 (bX7_words 43) rfl rfl rfl rfl rfl rfl rfl ⟨rfl, rfl, rfl⟩ ⟨by decide, by decide⟩ ⟨Nat.zero_le _, Nat.zero_le _⟩ (mLength f o A J (by omega) hT (by omega) 40 _ (pt_of hT (Nat.zero_le _) hn)) ?_
      rintro _ _ ⟨rfl, rfl⟩
      iterate 4 (refine zv_step (bX7_words 43) rfl rfl trivial ?_)
      refine zv_ifb (fun h27 => ?_) (fun h27 => ?_)
      · iterate 1 (refine zv_step (bX7_words 43) rfl rfl trivial ?_)
        exact zv_iret (bX7_words 43) rfl (Or.inl rfl) (Nat.zero_le _) (Nat.zero_le _) ⟨rfl, _, rfl⟩
      · iterate 2 (refine zv_step (bX7_words 43) rfl rfl trivial ?_)
        exact zv_iret (bX7_words 43) rfl (Or.inl rfl) (Nat.zero_le _) (Nat.zero_le _) ⟨rfl, _, rfl⟩
    · skip
      iterate 1 (refine zv_step (bX7_words 43) rfl rfl trivial ?_)
      refine zv_iff (by decide) ?_
      iterate 1 (refine zv_step (bX7_words 43) rfl rfl trivial ?_)
      exact zv_iret (bX7_words 43) rfl (Or.inl rfl) (Nat.zero_le _) (Nat.zero_le _) ⟨rfl, _, rfl⟩
  · skip
    iterate 1 (refine zv_step (bX7_words 43) rfl rfl trivial ?_)
    refine zv_ift (by decide) ?_
    iterate 1 (refine zv_step (bX7_words 43) rfl rfl trivial ?_)
    exact zv_iret (bX7_words 43) rfl (Or.inl rfl) (Nat.zero_le _) (Nat.zero_le _) ⟨rfl, _, rfl⟩
theorem tbI_u {lo hi : Nat} {A : Nat → Nat → Int32} (h : tbI lo hi A) {k : Nat} (hk : 5 ≤ k) (g : Nat → Int32) : tbI lo hi (updA A k g) := tbI_fr h (fun r hr i _ _ => by rw [updA_ne _ _ (by omega)])
/-- only what is said has changed -/
def qX (o : Nat → Int32) (A : Nat → Nat → Int32) (o' : Nat → Int32) (A' : Nat → Nat → Int32) : Prop := (∀ j, ¬ (18 ≤ j ∧ j ≤ 20) → o' j = o j) ∧ (∀ r, r ≠ 14 → r ≠ 15 → A' r = A r)
theorem qX_refl (o : Nat → Int32) (A : Nat → Nat → Int32) : qX o A o A := ⟨fun _ _ => rfl, fun _ _ _ => rfl⟩
theorem qX_trans {o o1 o2 : Nat → Int32} {A A1 A2 : Nat → Nat → Int32} (h : qX o A o1 A1) (k : qX o1 A1 o2 A2) : qX o A o2 A2 := ⟨fun j hj => (k.1 j hj).trans (h.1 j hj), fun r a b => (k.2 r a b).trans (h.2 r a b)⟩
theorem qX_say (o : Nat → Int32) (A : Nat → Nat → Int32) (a m q : Int32) (g : Nat → Int32) : qX o A (upd (upd (upd o 19 a) 20 m) 18 q) (updA A 14 g) := ⟨fun j hj => by rw [upd_ne _ _ (by omega), upd_ne _ _ (by omega), upd_ne _ _ (by omega)], fun r a b => updA_ne _ _ a⟩
theorem qX_15 (o : Nat → Int32) (A : Nat → Nat → Int32) (g : Nat → Int32) : qX o A o (updA A 15 g) := ⟨fun _ _ => rfl, fun r a b => updA_ne _ _ b⟩
theorem blI_q {A A' : Nat → Nat → Int32} {o o' : Nat → Int32} (h : blI A) (q : qX o A o' A') : blI A' := ⟨fun i => by rw [q.2 6 (by decide) (by decide)]; exact h.1 i, fun i => by rw [q.2 7 (by decide) (by decide)]; exact h.2 i⟩
theorem tbI_q {A A' : Nat → Nat → Int32} {o o' : Nat → Int32} {lo hi : Nat} (h : tbI lo hi A) (q : qX o A o' A') : tbI lo hi A' := tbI_fr h (fun r hr i _ _ => by rw [q.2 r (by omega) (by omega)])
set_option maxHeartbeats 1000000 in
set_option maxRecDepth 20000 in
theorem mWord (f : Nat → zC) (o : Nat → Int32) (A : Nat → Nat → Int32) (J : Nat → Nat → Int64) {u : Nat} (hu : u ≤ 120) (ho : o 0 = nI u) (hT : tbI 0 u A) (hB : blI A) (x y k : Int32) : zK 44 zX7_word [.ref 76, .int x, .int y, .int k] (wR f o A J) (fun r w' => ∃ (o' : Nat → Int32) (A' : Nat → Nat → Int32) (R : Int32), r = some (.int R) ∧ w' = wR f o' A' J ∧ qX o A o' A') := by
  refine zK_of qX7_word (by decide +kernel) rfl ?_
  iterate 1 (refine zv_step (bX7_word 44) rfl rfl trivial ?_)
  refine zv_S1 (bX7_word 44) rfl rfl rfl rfl ⟨rfl, rfl, rfl⟩ ⟨by decide, by decide⟩ ⟨Nat.zero_le _, Nat.zero_le _⟩ (hX7_isStyle _ _) ?_
  rintro _ _ ⟨rfl, ⟨g1, rfl⟩ | ⟨g1, rfl⟩⟩
  · obtain ⟨s, hs, rfl⟩ := in_nat (x := x) (b := 7) (by decide) g1
    iterate 1 (refine zv_step (bX7_word 44) rfl rfl trivial ?_)
    refine zv_iff (by decide) ?_
    iterate 2 (refine zv_step (bX7_word 44) rfl rfl trivial ?_)
    refine zv_V1 (bX7_word 44) rfl rfl rfl rfl rfl rfl rfl ⟨rfl, rfl, rfl⟩ ⟨by decide, by decide⟩ ⟨Nat.zero_le _, Nat.zero_le _⟩ (mIsNode f o A J hu ho _) ?_
    rintro _ _ ⟨rfl, ⟨g2, rfl⟩ | ⟨g2, rfl⟩⟩
    · obtain ⟨n, hn, rfl⟩ := nd_of (by omega) g2
      iterate 1 (refine zv_step (bX7_word 44) rfl rfl trivial ?_)
      refine zv_iff (by decide) ?_
      iterate 2 (refine zv_step (bX7_word 44) rfl rfl trivial ?_)
      refine zv_ifb (fun h16 => ?_) (fun h16 => ?_)
      · iterate 3 (refine zv_step (bX7_word 44) rfl rfl trivial ?_)
        refine zv_V2 (bX7_word 44) rfl rfl rfl rfl rfl rfl rfl ⟨rfl, rfl, rfl⟩ ⟨by decide, by decide⟩ ⟨Nat.zero_le _, Nat.zero_le _⟩ (mLength f o A J (by omega) hT (by omega) 40 _ (pt_of hT (Nat.zero_le _) hn)) ?_
        rintro _ _ ⟨rfl, rfl⟩
        iterate 4 (refine zv_step (bX7_word 44) rfl rfl trivial ?_)
        refine zv_ifb (fun h33 => ?_) (fun h33 => ?_)
        · iterate 3 (refine zv_step (bX7_word 44) rfl rfl trivial ?_)
          refine zv_ifb (fun h42 => ?_) (fun h42 => ?_)
          · iterate 3 (refine zv_step (bX7_word 44) rfl rfl trivial ?_)
            refine zv_V2 (bX7_word 44) rfl rfl rfl rfl rfl rfl rfl ⟨rfl, rfl, rfl⟩ ⟨by decide, by decide⟩ ⟨Nat.zero_le _, Nat.zero_le _⟩ (mSayAll f o A J (by omega) hT hB (by omega) (Nat.zero_le _) hn) ?_
            rintro _ _ ⟨rfl, m1, g9, rfl, w9⟩
            iterate 3 (refine zv_step (bX7_word 44) rfl rfl trivial ?_)
            refine zv_step (bX7_word 44) rfl rfl (vp_in_iff.mpr (by have hl := lnW_le (by omega) hT s 40 (nI n) (pt_of hT (Nat.zero_le _) hn); have hz := (rN_sz (hT n (Nat.zero_le _) hn)).2.1; rw [if_neg (nI_pos (by omega)), nI_clamp (by omega)] at hl; have a1 : (0 : Int32) ≤ k := h16; have a2 : k < nI (lnW A s 40 (nI n)) := h42; rw [Int32.le_iff_toInt_le, Int32.toInt_zero] at a1; rw [Int32.lt_iff_toInt_lt, nI_toInt (by omega)] at a2; omega)) ?_
            exact zv_iret (bX7_word 44) rfl (Or.inl rfl) (Nat.zero_le _) (Nat.zero_le _) ⟨_, _, _, rfl, rfl, qX_say o A _ _ _ _⟩
          · iterate 1 (refine zv_step (bX7_word 44) rfl rfl trivial ?_)
            exact zv_iret (bX7_word 44) rfl (Or.inl rfl) (Nat.zero_le _) (Nat.zero_le _) ⟨o, A, _, rfl, rfl, qX_refl o A⟩
        · iterate 1 (refine zv_step (bX7_word 44) rfl rfl trivial ?_)
          exact zv_iret (bX7_word 44) rfl (Or.inl rfl) (Nat.zero_le _) (Nat.zero_le _) ⟨o, A, _, rfl, rfl, qX_refl o A⟩
      · iterate 1 (refine zv_step (bX7_word 44) rfl rfl trivial ?_)
        exact zv_iret (bX7_word 44) rfl (Or.inl rfl) (Nat.zero_le _) (Nat.zero_le _) ⟨o, A, _, rfl, rfl, qX_refl o A⟩
    · skip
      iterate 1 (refine zv_step (bX7_word 44) rfl rfl trivial ?_)
      refine zv_ift (by decide) ?_
      iterate 1 (refine zv_step (bX7_word 44) rfl rfl trivial ?_)
      exact zv_iret (bX7_word 44) rfl (Or.inl rfl) (Nat.zero_le _) (Nat.zero_le _) ⟨o, A, _, rfl, rfl, qX_refl o A⟩
  · skip
    iterate 1 (refine zv_step (bX7_word 44) rfl rfl trivial ?_)
    refine zv_ift (by decide) ?_
    iterate 1 (refine zv_step (bX7_word 44) rfl rfl trivial ?_)
    exact zv_iret (bX7_word 44) rfl (Or.inl rfl) (Nat.zero_le _) (Nat.zero_le _) ⟨o, A, _, rfl, rfl, qX_refl o A⟩
set_option maxHeartbeats 1000000 in
set_option maxRecDepth 20000 in
theorem sound1 (f : Nat → zC) (o : Nat → Int32) (A : Nat → Nat → Int32) (J : Nat → Nat → Int64) {n m : Nat} (hn : n ≤ 80) {x y z : Int32} {n0 : Nat} {Q : Option Value → zW → Prop} (kk : ∀ g, zV (zMo 44 zX7_sound) false n0 0 0 94 [(6, .int (nI n)), (5, .int (nI m)), (4, .int (nI n)), (0, .ref 76), (1, .int x), (2, .int y), (3, .int z)] [] (wR f o (updA A 15 g) J) Q) : ∀ (c k : Nat) (g : Nat → Int32), k + c = n → ∀ {x6 : Int32}, x6 = nI k → zV (zMo 44 zX7_sound) false n0 0 0 67 [(6, .int x6), (5, .int (nI m)), (4, .int (nI n)), (0, .ref 76), (1, .int x), (2, .int y), (3, .int z)] [] (wR f o (updA A 15 g) J) Q := by
  intro c
  induction c with
  | zero =>
    intro k g hc x6 e6
    subst e6
    obtain rfl : k = n := by omega
    iterate 3 (refine zv_step (bX7_sound 44) rfl rfl trivial ?_)
    refine zv_ift (nI_le (by omega) (by omega)) ?_
    exact kk g
  | succ c ih =>
    intro k g hc x6 e6
    subst e6
    iterate 3 (refine zv_step (bX7_sound 44) rfl rfl trivial ?_)
    refine zv_iff (fun h => absurd ((nI_leI (by omega) (by omega)).mp h) (by omega)) ?_
    iterate 6 (refine zv_step (bX7_sound 44) rfl rfl trivial ?_)
    refine zv_iale (bX7_sound 44) rfl rfl (vp_in_nI (by omega) (by decide)) (show A 14 (nI k).toNatClampNeg = A 14 k by rw [nI_clamp (by omega)]) ?_
    refine zv_step (bX7_sound 44) rfl rfl (vp_in_nI (by omega) (by decide)) ?_
    iterate 2 (refine zv_step (bX7_sound 44) rfl rfl trivial ?_)
    refine zv_world (show _ = wR f o (updA A 15 (upd g k (A 14 k))) J from by rw [show upd g k (A 14 k) = upd g (nI k).toNatClampNeg (A 14 k) by rw [nI_clamp (by omega)]]; rfl) ?_
    exact ih (k + 1) _ (by omega) (nI_1 k)
set_option maxHeartbeats 1000000 in
set_option maxRecDepth 20000 in
theorem sound2 (f : Nat → zC) (o : Nat → Int32) (A : Nat → Nat → Int32) (J : Nat → Nat → Int64) {n m : Nat} (hn : n ≤ 80) {x y z : Int32} {n0 : Nat} {Q : Option Value → zW → Prop} (hQ : ∀ v : Int32, Q (some (.int v)) (wR f o A J)) : ∀ (c k : Nat), k + c = n → ∀ {x7 b : Int32}, x7 = nI k → zV (zMo 44 zX7_sound) false n0 0 0 117 [(7, .int x7), (6, .int b), (5, .int (nI m)), (4, .int (nI n)), (0, .ref 76), (1, .int x), (2, .int y), (3, .int z)] [] (wR f o A J) Q := by
  intro c
  induction c with
  | zero =>
    intro k hc x7 b e7
    subst e7
    obtain rfl : k = n := by omega
    iterate 3 (refine zv_step (bX7_sound 44) rfl rfl trivial ?_)
    refine zv_ift (nI_le (by omega) (by omega)) ?_
    iterate 2 (refine zv_step (bX7_sound 44) rfl rfl trivial ?_)
    refine zv_ifb (fun h161 => ?_) (fun h161 => ?_)
    · iterate 1 (refine zv_step (bX7_sound 44) rfl rfl trivial ?_)
      exact zv_iret (bX7_sound 44) rfl (Or.inl rfl) (Nat.zero_le _) (Nat.zero_le _) (hQ _)
    · iterate 2 (refine zv_step (bX7_sound 44) rfl rfl trivial ?_)
      exact zv_iret (bX7_sound 44) rfl (Or.inl rfl) (Nat.zero_le _) (Nat.zero_le _) (hQ _)
  | succ c ih =>
    intro k hc x7 b e7
    subst e7
    iterate 3 (refine zv_step (bX7_sound 44) rfl rfl trivial ?_)
    refine zv_iff (fun h => absurd ((nI_leI (by omega) (by omega)).mp h) (by omega)) ?_
    iterate 2 (refine zv_step (bX7_sound 44) rfl rfl trivial ?_)
    refine zv_ifb (fun h126 => ?_) (fun h126 => ?_)
    · iterate 2 (refine zv_step (bX7_sound 44) rfl rfl trivial ?_)
      refine zv_ifb (fun h161 => ?_) (fun h161 => ?_)
      · iterate 1 (refine zv_step (bX7_sound 44) rfl rfl trivial ?_)
        exact zv_iret (bX7_sound 44) rfl (Or.inl rfl) (Nat.zero_le _) (Nat.zero_le _) (hQ _)
      · iterate 2 (refine zv_step (bX7_sound 44) rfl rfl trivial ?_)
        exact zv_iret (bX7_sound 44) rfl (Or.inl rfl) (Nat.zero_le _) (Nat.zero_le _) (hQ _)
    · iterate 3 (refine zv_step (bX7_sound 44) rfl rfl trivial ?_)
      refine zv_iale (bX7_sound 44) rfl rfl (vp_in_nI (by omega) (by decide)) (show A 15 (nI k).toNatClampNeg = A 15 k by rw [nI_clamp (by omega)]) ?_
      iterate 3 (refine zv_step (bX7_sound 44) rfl rfl trivial ?_)
      refine zv_iale (bX7_sound 44) rfl rfl (vp_in_nI (by omega) (by decide)) (show A 14 (nI k).toNatClampNeg = A 14 k by rw [nI_clamp (by omega)]) ?_
      iterate 1 (refine zv_step (bX7_sound 44) rfl rfl trivial ?_)
      refine zv_ifb (fun h143 => ?_) (fun h143 => ?_)
      · iterate 4 (refine zv_step (bX7_sound 44) rfl rfl trivial ?_)
        refine zv_locals (l := [(7, .int (nI k + Int32.ofInt 1)), (6, .int (Int32.ofInt 0)), (5, .int (nI m)), (4, .int (nI n)), (0, .ref 76), (1, .int x), (2, .int y), (3, .int z)]) (l' := [(7, .int (nI k + Int32.ofInt 1)), (6, .int (Int32.ofInt 0)), (5, .int (nI m)), (4, .int (nI n)), (0, .ref 76), (1, .int x), (2, .int y), (3, .int z)]) ?_ (ih (k + 1) (by omega) (nI_1 k))
        simp
      · iterate 5 (refine zv_step (bX7_sound 44) rfl rfl trivial ?_)
        refine zv_locals (l := [(7, .int (nI k + Int32.ofInt 1)), (6, .int (Int32.ofInt 1)), (5, .int (nI m)), (4, .int (nI n)), (0, .ref 76), (1, .int x), (2, .int y), (3, .int z)]) (l' := [(7, .int (nI k + Int32.ofInt 1)), (6, .int (Int32.ofInt 1)), (5, .int (nI m)), (4, .int (nI n)), (0, .ref 76), (1, .int x), (2, .int y), (3, .int z)]) ?_ (ih (k + 1) (by omega) (nI_1 k))
        simp
set_option maxHeartbeats 1000000 in
set_option maxRecDepth 20000 in
theorem mSound (f : Nat → zC) (o : Nat → Int32) (A : Nat → Nat → Int32) (J : Nat → Nat → Int64) {u : Nat} (hu : u ≤ 120) (ho : o 0 = nI u) (hT : tbI 0 u A) (hB : blI A) (x y z : Int32) : zK 44 zX7_sound [.ref 76, .int x, .int y, .int z] (wR f o A J) (fun r w' => ∃ (o' : Nat → Int32) (A' : Nat → Nat → Int32) (R : Int32), r = some (.int R) ∧ w' = wR f o' A' J ∧ qX o A o' A') := by
  refine zK_of qX7_sound (by decide +kernel) rfl ?_
  iterate 1 (refine zv_step (bX7_sound 44) rfl rfl trivial ?_)
  refine zv_S1 (bX7_sound 44) rfl rfl rfl rfl ⟨rfl, rfl, rfl⟩ ⟨by decide, by decide⟩ ⟨Nat.zero_le _, Nat.zero_le _⟩ (hX7_isStyle _ _) ?_
  rintro _ _ ⟨rfl, ⟨g1, rfl⟩ | ⟨g1, rfl⟩⟩
  · obtain ⟨s, hs, rfl⟩ := in_nat (x := x) (b := 7) (by decide) g1
    iterate 1 (refine zv_step (bX7_sound 44) rfl rfl trivial ?_)
    refine zv_iff (by decide) ?_
    iterate 2 (refine zv_step (bX7_sound 44) rfl rfl trivial ?_)
    refine zv_V1 (bX7_sound 44) rfl rfl rfl rfl rfl rfl rfl ⟨rfl, rfl, rfl⟩ ⟨by decide, by decide⟩ ⟨Nat.zero_le _, Nat.zero_le _⟩ (mIsNode f o A J hu ho _) ?_
    rintro _ _ ⟨rfl, ⟨g2, rfl⟩ | ⟨g2, rfl⟩⟩
    · obtain ⟨n, hn, rfl⟩ := nd_of (by omega) g2
      iterate 1 (refine zv_step (bX7_sound 44) rfl rfl trivial ?_)
      refine zv_iff (by decide) ?_
      iterate 2 (refine zv_step (bX7_sound 44) rfl rfl trivial ?_)
      refine zv_V1 (bX7_sound 44) rfl rfl rfl rfl rfl rfl rfl ⟨rfl, rfl, rfl⟩ ⟨by decide, by decide⟩ ⟨Nat.zero_le _, Nat.zero_le _⟩ (mIsNode f o A J hu ho _) ?_
      rintro _ _ ⟨rfl, ⟨g3, rfl⟩ | ⟨g3, rfl⟩⟩
      · obtain ⟨m, hm, rfl⟩ := nd_of (by omega) g3
        iterate 1 (refine zv_step (bX7_sound 44) rfl rfl trivial ?_)
        refine zv_ift (by decide) ?_
        iterate 3 (refine zv_step (bX7_sound 44) rfl rfl trivial ?_)
        refine zv_V2 (bX7_sound 44) rfl rfl rfl rfl rfl rfl rfl ⟨rfl, rfl, rfl⟩ ⟨by decide, by decide⟩ ⟨Nat.zero_le _, Nat.zero_le _⟩ (mLength f o A J (by omega) hT (by omega) 40 _ (pt_of hT (Nat.zero_le _) hn)) ?_
        rintro _ _ ⟨rfl, rfl⟩
        iterate 4 (refine zv_step (bX7_sound 44) rfl rfl trivial ?_)
        refine zv_V2 (bX7_sound 44) rfl rfl rfl rfl rfl rfl rfl ⟨rfl, rfl, rfl⟩ ⟨by decide, by decide⟩ ⟨Nat.zero_le _, Nat.zero_le _⟩ (mLength f o A J (by omega) hT (by omega) 40 _ (pt_of hT (Nat.zero_le _) hm)) ?_
        rintro _ _ ⟨rfl, rfl⟩
        iterate 4 (refine zv_step (bX7_sound 44) rfl rfl trivial ?_)
        refine zv_ifb (fun h45 => ?_) (fun h45 => ?_)
        · iterate 1 (refine zv_step (bX7_sound 44) rfl rfl trivial ?_)
          exact zv_iret (bX7_sound 44) rfl (Or.inl rfl) (Nat.zero_le _) (Nat.zero_le _) ⟨o, A, _, rfl, rfl, qX_refl o A⟩
        · have hl0 : nI (lnW A s 40 (nI n)) ≤ nI 80 := Int32.not_lt.mp h45
          iterate 3 (refine zv_step (bX7_sound 44) rfl rfl trivial ?_)
          refine zv_ifb (fun h52 => ?_) (fun h52 => ?_)
          · iterate 3 (refine zv_step (bX7_sound 44) rfl rfl trivial ?_)
            refine zv_V2 (bX7_sound 44) rfl rfl rfl rfl rfl rfl rfl ⟨rfl, rfl, rfl⟩ ⟨by decide, by decide⟩ ⟨Nat.zero_le _, Nat.zero_le _⟩ (mSayAll f o A J (by omega) hT hB (by omega) (Nat.zero_le _) hn) ?_
            rintro _ _ ⟨rfl, m1, g9, rfl, w9⟩
            iterate 2 (refine zv_step (bX7_sound 44) rfl rfl trivial ?_)
            have hl1 : nI (lnW A s 40 (nI n)) ≤ nI 80 := hl0
            have hl2 : lnW A s 40 (nI n) ≤ 80 := by
              have hl := lnW_le (by omega) hT s 40 (nI n) (pt_of hT (Nat.zero_le _) hn)
              have hz := (rN_sz (hT n (Nat.zero_le _) hn)).2.1
              rw [if_neg (nI_pos (by omega)), nI_clamp (by omega)] at hl
              rwa [nI_leI (by omega) (by decide)] at hl1
            refine zv_world (show _ = wR f (upd (upd (upd o 19 (Int32.ofInt (-1))) 20 m1) 18 (nI (lnW A s 40 (nI n)))) (updA (updA A 14 g9) 15 (A 15)) J from rfl) ?_
            refine zv_locals (l := [(6, .int (Int32.ofInt 0)), (5, .int (nI (lnW A s 40 (nI m)))), (4, .int (nI (lnW A s 40 (nI n)))), (0, .ref 76), (1, .int (nI s)), (2, .int (nI n)), (3, .int (nI m))]) (l' := [(6, .int (Int32.ofInt 0)), (5, .int (nI (lnW A s 40 (nI m)))), (4, .int (nI (lnW A s 40 (nI n)))), (0, .ref 76), (1, .int (nI s)), (2, .int (nI n)), (3, .int (nI m))]) (fun q h => h) (sound1 f (upd (upd (upd o 19 (Int32.ofInt (-1))) 20 m1) 18 (nI (lnW A s 40 (nI n)))) (updA A 14 g9) J hl2 (fun ga => ?_) (lnW A s 40 (nI n)) 0 (A 15) (by omega) rfl)
            have hq1 := qX_trans (qX_say o A (Int32.ofInt (-1)) m1 (nI (lnW A s 40 (nI n))) g9) (qX_15 _ _ ga)
            iterate 3 (refine zv_step (bX7_sound 44) rfl rfl trivial ?_)
            refine zv_V2 (bX7_sound 44) rfl rfl rfl rfl rfl rfl rfl ⟨rfl, rfl, rfl⟩ ⟨by decide, by decide⟩ ⟨Nat.zero_le _, Nat.zero_le _⟩ (mSayAll f (upd (upd (upd o 19 (Int32.ofInt (-1))) 20 m1) 18 (nI (lnW A s 40 (nI n)))) (updA (updA A 14 g9) 15 ga) J (by omega) (tbI_u (tbI_u hT (by decide) g9) (by decide) ga) (blI_q hB hq1) (by omega) (Nat.zero_le _) hm) ?_
            rintro _ _ ⟨rfl, m3, g8, rfl, w8⟩
            have hq2 := qX_trans hq1 (qX_say _ _ (Int32.ofInt (-1)) m3 (nI (lnW (updA (updA A 14 g9) 15 ga) s 40 (nI m))) g8)
            iterate 3 (refine zv_step (bX7_sound 44) rfl rfl trivial ?_)
            refine zv_ifb (fun h104 => ?_) (fun h104 => ?_)
            · iterate 4 (refine zv_step (bX7_sound 44) rfl rfl trivial ?_)
              refine zv_locals (l := [(7, .int (Int32.ofInt 0)), (6, .int (Int32.ofInt 0)), (5, .int (nI (lnW A s 40 (nI m)))), (4, .int (nI (lnW A s 40 (nI n)))), (0, .ref 76), (1, .int (nI s)), (2, .int (nI n)), (3, .int (nI m))]) (l' := [(7, .int (Int32.ofInt 0)), (6, .int (Int32.ofInt 0)), (5, .int (nI (lnW A s 40 (nI m)))), (4, .int (nI (lnW A s 40 (nI n)))), (0, .ref 76), (1, .int (nI s)), (2, .int (nI n)), (3, .int (nI m))]) ?_ (sound2 f _ _ J hl2 (fun v => ⟨_, _, _, rfl, rfl, hq2⟩) (lnW A s 40 (nI n)) 0 (by omega) rfl)
              simp
            · iterate 5 (refine zv_step (bX7_sound 44) rfl rfl trivial ?_)
              refine zv_locals (l := [(7, .int (Int32.ofInt 0)), (6, .int (Int32.ofInt 1)), (5, .int (nI (lnW A s 40 (nI m)))), (4, .int (nI (lnW A s 40 (nI n)))), (0, .ref 76), (1, .int (nI s)), (2, .int (nI n)), (3, .int (nI m))]) (l' := [(7, .int (Int32.ofInt 0)), (6, .int (Int32.ofInt 1)), (5, .int (nI (lnW A s 40 (nI m)))), (4, .int (nI (lnW A s 40 (nI n)))), (0, .ref 76), (1, .int (nI s)), (2, .int (nI n)), (3, .int (nI m))]) ?_ (sound2 f _ _ J hl2 (fun v => ⟨_, _, _, rfl, rfl, hq2⟩) (lnW A s 40 (nI n)) 0 (by omega) rfl)
              simp
          · iterate 1 (refine zv_step (bX7_sound 44) rfl rfl trivial ?_)
            exact zv_iret (bX7_sound 44) rfl (Or.inl rfl) (Nat.zero_le _) (Nat.zero_le _) ⟨o, A, _, rfl, rfl, qX_refl o A⟩
      · skip
        iterate 1 (refine zv_step (bX7_sound 44) rfl rfl trivial ?_)
        refine zv_iff (by decide) ?_
        iterate 1 (refine zv_step (bX7_sound 44) rfl rfl trivial ?_)
        exact zv_iret (bX7_sound 44) rfl (Or.inl rfl) (Nat.zero_le _) (Nat.zero_le _) ⟨o, A, _, rfl, rfl, qX_refl o A⟩
    · skip
      iterate 1 (refine zv_step (bX7_sound 44) rfl rfl trivial ?_)
      refine zv_ift (by decide) ?_
      iterate 1 (refine zv_step (bX7_sound 44) rfl rfl trivial ?_)
      exact zv_iret (bX7_sound 44) rfl (Or.inl rfl) (Nat.zero_le _) (Nat.zero_le _) ⟨o, A, _, rfl, rfl, qX_refl o A⟩
  · skip
    iterate 1 (refine zv_step (bX7_sound 44) rfl rfl trivial ?_)
    refine zv_ift (by decide) ?_
    iterate 1 (refine zv_step (bX7_sound 44) rfl rfl trivial ?_)
    exact zv_iret (bX7_sound 44) rfl (Or.inl rfl) (Nat.zero_le _) (Nat.zero_le _) ⟨o, A, _, rfl, rfl, qX_refl o A⟩
set_option maxHeartbeats 1000000 in
set_option maxRecDepth 20000 in
theorem hearsL (f : Nat → zC) (o : Nat → Int32) (A : Nat → Nat → Int32) (J : Nat → Nat → Int64) {q : Nat} (hq : q ≤ 20) (ho : o 18 = nI q) (hw : nnW q (A 14)) {n0 : Nat} : ∀ (c k : Nat) (g : Nat → Int32), k + c = q → nnW k g → ∀ {x1 : Int32}, x1 = nI k → zV (zMo 0 zX7_hears) false n0 0 0 2 [(1, .int x1), (0, .ref 76)] [] (wR f o (updA A 8 g) J) (fun r w' => r = none ∧ ∃ g' : Nat → Int32, w' = wR f (upd o 10 (nI q)) (updA A 8 g') J ∧ nnW q g') := by
  intro c
  induction c with
  | zero =>
    intro k g hc hg x1 e1
    subst e1
    iterate 4 (refine zv_step (bX7_hears 0) rfl rfl trivial ?_)
    refine zv_ift (show o 18 ≤ nI k by rw [ho]; exact nI_le (by omega) (by omega)) ?_
    iterate 4 (refine zv_step (bX7_hears 0) rfl rfl trivial ?_)
    exact zv_ret (bX7_hears 0) rfl rfl (Nat.zero_le _) (Nat.zero_le _) ⟨rfl, g, by rw [← ho]; rfl, by rw [show q = k by omega]; exact hg⟩
  | succ c ih =>
    intro k g hc hg x1 e1
    subst e1
    iterate 4 (refine zv_step (bX7_hears 0) rfl rfl trivial ?_)
    refine zv_iff (show ¬ o 18 ≤ nI k by rw [ho]; exact fun h => absurd ((nI_leI (by omega) (by omega)).mp h) (by omega)) ?_
    iterate 6 (refine zv_step (bX7_hears 0) rfl rfl trivial ?_)
    refine zv_iale (bX7_hears 0) rfl rfl (vp_in_nI (by omega) (by decide)) (show A 14 (nI k).toNatClampNeg = A 14 k by rw [nI_clamp (by omega)]) ?_
    refine zv_step (bX7_hears 0) rfl rfl (vp_in_nI (by omega) (by decide)) ?_
    iterate 2 (refine zv_step (bX7_hears 0) rfl rfl trivial ?_)
    refine zv_world (show _ = wR f o (updA A 8 (upd g k (A 14 k))) J from by rw [show upd g k (A 14 k) = upd g (nI k).toNatClampNeg (A 14 k) by rw [nI_clamp (by omega)]]; rfl) ?_
    exact ih (k + 1) _ (by omega) (nnW_s hg (hw k (by omega))) (nI_1 k)
set_option maxHeartbeats 1000000 in
set_option maxRecDepth 20000 in
theorem mHears (f : Nat → zC) (o : Nat → Int32) (A : Nat → Nat → Int32) (J : Nat → Nat → Int64) {q : Nat} (hq : q ≤ 20) (ho : o 18 = nI q) (hw : nnW q (A 14)) : zK 0 zX7_hears [.ref 76] (wR f o A J) (fun r w' => r = none ∧ ∃ g' : Nat → Int32, w' = wR f (upd o 10 (nI q)) (updA A 8 g') J ∧ nnW q g') := by
  refine zK_of qX7_hears (by decide +kernel) rfl ?_
  iterate 2 (refine zv_step (bX7_hears 0) rfl rfl trivial ?_)
  refine zv_world (show _ = wR f o (updA A 8 (A 8)) J from rfl) ?_
  exact hearsL f o A J hq ho hw q 0 (A 8) (by omega) (fun i hi => absurd hi (by omega)) rfl
/-- the ear may have changed, and what is said -/
def eX (o : Nat → Int32) (A : Nat → Nat → Int32) (o' : Nat → Int32) (A' : Nat → Nat → Int32) : Prop := (∃ h : Nat, h ≤ 20 ∧ o' 10 = nI h ∧ nnW h (A' 8)) ∧ (∀ j, j ≠ 10 → ¬ (18 ≤ j ∧ j ≤ 20) → o' j = o j) ∧ (∀ r, r ≠ 8 → r ≠ 14 → r ≠ 15 → A' r = A r)
theorem eX_q {o o' : Nat → Int32} {A A' : Nat → Nat → Int32} {h : Nat} (hh : h ≤ 20) (e : o 10 = nI h) (hw : nnW h (A 8)) (q : qX o A o' A') : eX o A o' A' := ⟨⟨h, hh, (q.1 10 (by decide)).trans e, by rw [q.2 8 (by decide) (by decide)]; exact hw⟩, fun j _ a => q.1 j a, fun r _ a b => q.2 r a b⟩
theorem eX_hears {o o' : Nat → Int32} {A A' : Nat → Nat → Int32} (q : qX o A o' A') {h : Nat} (hh : h ≤ 20) {g : Nat → Int32} (hg : nnW h g) : eX o A (upd o' 10 (nI h)) (updA A' 8 g) := ⟨⟨h, hh, upd_self _ _ _, by rw [updA_self]; exact hg⟩, fun j a b => (upd_ne _ _ a).trans (q.1 j b), fun r a b c => (updA_ne _ _ a).trans (q.2 r b c)⟩
set_option maxHeartbeats 1000000 in
set_option maxRecDepth 20000 in
theorem mListen (f : Nat → zC) (o : Nat → Int32) (A : Nat → Nat → Int32) (J : Nat → Nat → Int64) {u : Nat} (hu : u ≤ 120) (ho : o 0 = nI u) (hT : tbI 0 u A) (hB : blI A) {h : Nat} (hh : h ≤ 20) (ho10 : o 10 = nI h) (hw : nnW h (A 8)) (x y : Int32) : zK 44 zX7_listen [.ref 76, .int x, .int y] (wR f o A J) (fun r w' => ∃ (o' : Nat → Int32) (A' : Nat → Nat → Int32) (R : Int32), r = some (.int R) ∧ w' = wR f o' A' J ∧ eX o A o' A') := by
  refine zK_of qX7_listen (by decide +kernel) rfl ?_
  iterate 1 (refine zv_step (bX7_listen 44) rfl rfl trivial ?_)
  refine zv_S1 (bX7_listen 44) rfl rfl rfl rfl ⟨rfl, rfl, rfl⟩ ⟨by decide, by decide⟩ ⟨Nat.zero_le _, Nat.zero_le _⟩ (hX7_isStyle _ _) ?_
  rintro _ _ ⟨rfl, ⟨g1, rfl⟩ | ⟨g1, rfl⟩⟩
  · obtain ⟨s, hs, rfl⟩ := in_nat (x := x) (b := 7) (by decide) g1
    iterate 1 (refine zv_step (bX7_listen 44) rfl rfl trivial ?_)
    refine zv_iff (by decide) ?_
    iterate 2 (refine zv_step (bX7_listen 44) rfl rfl trivial ?_)
    refine zv_V1 (bX7_listen 44) rfl rfl rfl rfl rfl rfl rfl ⟨rfl, rfl, rfl⟩ ⟨by decide, by decide⟩ ⟨Nat.zero_le _, Nat.zero_le _⟩ (mIsNode f o A J hu ho _) ?_
    rintro _ _ ⟨rfl, ⟨g2, rfl⟩ | ⟨g2, rfl⟩⟩
    · obtain ⟨n, hn, rfl⟩ := nd_of (by omega) g2
      iterate 1 (refine zv_step (bX7_listen 44) rfl rfl trivial ?_)
      refine zv_ift (by decide) ?_
      iterate 3 (refine zv_step (bX7_listen 44) rfl rfl trivial ?_)
      refine zv_V2 (bX7_listen 44) rfl rfl rfl rfl rfl rfl rfl ⟨rfl, rfl, rfl⟩ ⟨by decide, by decide⟩ ⟨Nat.zero_le _, Nat.zero_le _⟩ (mLength f o A J (by omega) hT (by omega) 40 _ (pt_of hT (Nat.zero_le _) hn)) ?_
      rintro _ _ ⟨rfl, rfl⟩
      iterate 4 (refine zv_step (bX7_listen 44) rfl rfl trivial ?_)
      refine zv_ifb (fun h27 => ?_) (fun h27 => ?_)
      · iterate 3 (refine zv_step (bX7_listen 44) rfl rfl trivial ?_)
        refine zv_ifb (fun h36 => ?_) (fun h36 => ?_)
        · have hl1 : nI (lnW A s 40 (nI n)) ≤ nI 20 := h36
          have hl2 : lnW A s 40 (nI n) ≤ 20 := by
            have hl := lnW_le (by omega) hT s 40 (nI n) (pt_of hT (Nat.zero_le _) hn)
            have hz := (rN_sz (hT n (Nat.zero_le _) hn)).2.1
            rw [if_neg (nI_pos (by omega)), nI_clamp (by omega)] at hl
            rwa [nI_leI (by omega) (by decide)] at hl1
          iterate 3 (refine zv_step (bX7_listen 44) rfl rfl trivial ?_)
          refine zv_V2 (bX7_listen 44) rfl rfl rfl rfl rfl rfl rfl ⟨rfl, rfl, rfl⟩ ⟨by decide, by decide⟩ ⟨Nat.zero_le _, Nat.zero_le _⟩ (mSayAll f o A J (by omega) hT hB (by omega) (Nat.zero_le _) hn) ?_
          rintro _ _ ⟨rfl, m1, g9, rfl, w9⟩
          iterate 1 (refine zv_step (bX7_listen 44) rfl rfl trivial ?_)
          refine zv_V0 (bX7_listen 44) rfl rfl rfl rfl rfl rfl rfl ⟨rfl, rfl, rfl⟩ ⟨by decide, by decide⟩ ⟨Nat.zero_le _, Nat.zero_le _⟩ (mHears f _ (updA A 14 g9) J hl2 rfl w9) ?_
          rintro _ _ ⟨rfl, g7, rfl, w7⟩
          iterate 2 (refine zv_step (bX7_listen 44) rfl rfl trivial ?_)
          exact zv_iret (bX7_listen 44) rfl (Or.inl rfl) (Nat.zero_le _) (Nat.zero_le _) ⟨_, _, _, rfl, rfl, eX_hears (qX_say o A _ _ _ _) hl2 w7⟩
        · iterate 1 (refine zv_step (bX7_listen 44) rfl rfl trivial ?_)
          exact zv_iret (bX7_listen 44) rfl (Or.inl rfl) (Nat.zero_le _) (Nat.zero_le _) ⟨o, A, _, rfl, rfl, eX_q hh ho10 hw (qX_refl o A)⟩
      · iterate 1 (refine zv_step (bX7_listen 44) rfl rfl trivial ?_)
        exact zv_iret (bX7_listen 44) rfl (Or.inl rfl) (Nat.zero_le _) (Nat.zero_le _) ⟨o, A, _, rfl, rfl, eX_q hh ho10 hw (qX_refl o A)⟩
    · skip
      iterate 1 (refine zv_step (bX7_listen 44) rfl rfl trivial ?_)
      refine zv_iff (by decide) ?_
      iterate 1 (refine zv_step (bX7_listen 44) rfl rfl trivial ?_)
      exact zv_iret (bX7_listen 44) rfl (Or.inl rfl) (Nat.zero_le _) (Nat.zero_le _) ⟨o, A, _, rfl, rfl, eX_q hh ho10 hw (qX_refl o A)⟩
  · skip
    iterate 1 (refine zv_step (bX7_listen 44) rfl rfl trivial ?_)
    refine zv_ift (by decide) ?_
    iterate 1 (refine zv_step (bX7_listen 44) rfl rfl trivial ?_)
    exact zv_iret (bX7_listen 44) rfl (Or.inl rfl) (Nat.zero_le _) (Nat.zero_le _) ⟨o, A, _, rfl, rfl, eX_q hh ho10 hw (qX_refl o A)⟩
set_option maxHeartbeats 1000000 in
set_option maxRecDepth 20000 in
theorem mHush (f : Nat → zC) (o : Nat → Int32) (A : Nat → Nat → Int32) (J : Nat → Nat → Int64) : zK 0 zX7_hush [.ref 76] (wR f o A J) (fun r w' => (∃ R : Int32, r = some (.int R)) ∧ w' = wR f (upd o 10 (Int32.ofInt 0)) A J) := by
  refine zK_of qX7_hush (by decide +kernel) rfl ?_
  iterate 7 (refine zv_step (bX7_hush 0) rfl rfl trivial ?_)
  exact zv_iret (bX7_hush 0) rfl (Or.inl rfl) (Nat.zero_le _) (Nat.zero_le _) ⟨⟨_, rfl⟩, rfl⟩
set_option maxHeartbeats 1000000 in
set_option maxRecDepth 20000 in
theorem mEar (f : Nat → zC) (o : Nat → Int32) (A : Nat → Nat → Int32) (J : Nat → Nat → Int64) {h : Nat} (hh : h ≤ 20) (ho10 : o 10 = nI h) (x : Int32) : zK 1 zX7_ear [.ref 76, .int x] (wR f o A J) (fun r w' => w' = (wR f o A J) ∧ ∃ v : Int32, r = some (.int v)) := by
  refine zK_of qX7_ear (by decide +kernel) rfl ?_
  iterate 8 (refine zv_step (bX7_ear 1) rfl rfl trivial ?_)
  refine zv_S3 (bX7_ear 1) rfl rfl rfl rfl ⟨rfl, rfl, rfl⟩ ⟨by decide, by decide⟩ ⟨Nat.zero_le _, Nat.zero_le _⟩ (mIn _ _ _ _ (a := 0) (b := (h : Int) - 1) (by decide) (by rw [Int32.toInt_toInt64]; show (o 10 - Int32.ofInt 1).toInt = _; rw [ho10, pred_toInt (by omega)])) ?_
  rintro _ _ ⟨rfl, ⟨g1, rfl⟩ | ⟨g1, rfl⟩⟩
  · skip
    iterate 1 (refine zv_step (bX7_ear 1) rfl rfl trivial ?_)
    refine zv_iff (by decide) ?_
    iterate 3 (refine zv_step (bX7_ear 1) rfl rfl trivial ?_)
    refine zv_step (bX7_ear 1) rfl rfl (vp_in_iff.mpr (by omega)) ?_
    iterate 1 (refine zv_step (bX7_ear 1) rfl rfl trivial ?_)
    exact zv_iret (bX7_ear 1) rfl (Or.inl rfl) (Nat.zero_le _) (Nat.zero_le _) ⟨rfl, _, rfl⟩
  · skip
    iterate 1 (refine zv_step (bX7_ear 1) rfl rfl trivial ?_)
    refine zv_ift (by decide) ?_
    iterate 1 (refine zv_step (bX7_ear 1) rfl rfl trivial ?_)
    exact zv_iret (bX7_ear 1) rfl (Or.inl rfl) (Nat.zero_le _) (Nat.zero_le _) ⟨rfl, _, rfl⟩
theorem and31 (x : Int32) : ∃ e : Nat, e ≤ 31 ∧ x &&& c8 31 = nI e := by
  refine ⟨(x &&& c8 31).toBitVec.toNat, ?_, ?_⟩
  · rw [Int32.toBitVec_and, BitVec.toNat_and]
    exact Nat.and_le_right
  · rw [← Int32.toBitVec_inj]
    show _ = BitVec.ofNat 32 _
    rw [BitVec.ofNat_toNat, BitVec.setWidth_eq]
theorem nI_dec2 (k : Nat) : nI k + Int32.ofInt (-1) = nI k - Int32.ofInt 1 := by
  rw [Int32.sub_eq_add_neg]
  rfl
set_option maxHeartbeats 1000000 in
set_option maxRecDepth 20000 in
theorem hearL2 (f : Nat → zC) (o : Nat → Int32) (A : Nat → Nat → Int32) (J : Nat → Nat → Int64) {n : Nat} (hn : n ≤ 5) (y : Int32) {n0 : Nat} : ∀ (k l : Nat) (g : Nat → Int32), l + k ≤ 20 → nnW l g → ∀ {x3 : Int32}, x3 = nI k - Int32.ofInt 1 → zV (zMo 1 zX7_hear) false n0 0 0 60 [(3, .int x3), (0, .ref 76), (1, .int (nI n)), (2, .int y)] [] (wR f (upd o 10 (nI l)) (updA A 8 g) J) (fun r w' => ∃ (l' : Nat) (g' : Nat → Int32) (R : Int32), r = some (.int R) ∧ w' = (wR f (upd o 10 (nI l')) (updA A 8 g') J) ∧ l' ≤ 20 ∧ nnW l' g') := by
  intro k
  induction k with
  | zero =>
    intro l g hl hg x3 e3
    subst e3
    iterate 2 (refine zv_step (bX7_hear 1) rfl rfl trivial ?_)
    refine zv_ift (show nI 0 - Int32.ofInt 1 < 0 by decide) ?_
    iterate 2 (refine zv_step (bX7_hear 1) rfl rfl trivial ?_)
    exact zv_iret (bX7_hear 1) rfl (Or.inl rfl) (Nat.zero_le _) (Nat.zero_le _) ⟨l, g, _, rfl, rfl, by omega, hg⟩
  | succ k ih =>
    intro l g hl hg x3 e3
    subst e3
    iterate 2 (refine zv_step (bX7_hear 1) rfl rfl trivial ?_)
    refine zv_iff (show ¬ nI (k + 1) - Int32.ofInt 1 < 0 by rw [show nI (k + 1) - Int32.ofInt 1 = nI k from nI_m1 k]; exact nI_pos (by omega)) ?_
    iterate 11 (refine zv_step (bX7_hear 1) rfl rfl trivial ?_)
    refine zv_step (bX7_hear 1) rfl rfl (show vp_in (nI l) 20 from vp_in_nI (by omega) (by decide)) ?_
    iterate 8 (refine zv_step (bX7_hear 1) rfl rfl trivial ?_)
    refine zv_world (show _ = wR f (upd o 10 (nI (l + 1))) (updA A 8 (upd g l (y >>> (Int32.ofInt 5 * (nI (k + 1) - Int32.ofInt 1) &&& 31) &&& c8 31))) J from by rw [show nI (l + 1) = nI l + Int32.ofInt 1 from (nI_1 l).symm, show upd g l = upd g (nI l).toNatClampNeg by rw [nI_clamp (by omega)]]; rfl) ?_
    exact ih (l + 1) _ (by omega) (nnW_s hg (and31 _)) (by rw [show nI (k + 1) - Int32.ofInt 1 = nI k from nI_m1 k, ← nI_dec2])
set_option maxHeartbeats 1000000 in
set_option maxRecDepth 20000 in
theorem hearL1 (f : Nat → zC) (o : Nat → Int32) (A : Nat → Nat → Int32) (J : Nat → Nat → Int64) {h : Nat} (hh : h ≤ 20) (hw : nnW h (A 8)) {n : Nat} (hn : n ≤ 5) (y : Int32) {n0 : Nat} : ∀ (c k : Nat), k + c = n → ∀ {x3 : Int32}, x3 = nI k → zV (zMo 1 zX7_hear) false n0 0 0 16 [(3, .int x3), (0, .ref 76), (1, .int (nI n)), (2, .int y)] [] (wR f (upd o 10 (nI h)) A J) (fun r w' => ∃ (l' : Nat) (g' : Nat → Int32) (R : Int32), r = some (.int R) ∧ w' = (wR f (upd o 10 (nI l')) (updA A 8 g') J) ∧ l' ≤ 20 ∧ nnW l' g') := by
  intro c
  induction c with
  | zero =>
    intro k hc x3 e3
    subst e3
    iterate 3 (refine zv_step (bX7_hear 1) rfl rfl trivial ?_)
    refine zv_ift (nI_le (by omega) (by omega)) ?_
    iterate 6 (refine zv_step (bX7_hear 1) rfl rfl trivial ?_)
    refine zv_ifb (fun h50 => ?_) (fun h50 => ?_)
    · have hs : h + n ≤ 20 := by
        have h9 : nI h + nI n ≤ nI 20 := h50
        rwa [nI_add, nI_leI (by omega) (by decide)] at h9
      iterate 4 (refine zv_step (bX7_hear 1) rfl rfl trivial ?_)
      refine zv_world (show _ = (wR f (upd o 10 (nI h)) (updA A 8 (A 8)) J) from rfl) ?_
      refine zv_locals (l := [(3, .int (nI n - Int32.ofInt 1)), (0, .ref 76), (1, .int (nI n)), (2, .int y)]) (l' := [(3, .int (nI n - Int32.ofInt 1)), (0, .ref 76), (1, .int (nI n)), (2, .int y)]) ?_ (hearL2 f o A J hn y n h (A 8) hs hw rfl)
      simp
    · iterate 1 (refine zv_step (bX7_hear 1) rfl rfl trivial ?_)
      exact zv_iret (bX7_hear 1) rfl (Or.inl rfl) (Nat.zero_le _) (Nat.zero_le _) ⟨h, A 8, _, rfl, rfl, hh, hw⟩
  | succ c ih =>
    intro k hc x3 e3
    subst e3
    iterate 3 (refine zv_step (bX7_hear 1) rfl rfl trivial ?_)
    refine zv_iff (fun h => absurd ((nI_leI (by omega) (by omega)).mp h) (by omega)) ?_
    iterate 9 (refine zv_step (bX7_hear 1) rfl rfl trivial ?_)
    refine zv_ifb (fun h31 => ?_) (fun h31 => ?_)
    · iterate 2 (refine zv_step (bX7_hear 1) rfl rfl trivial ?_)
      exact ih (k + 1) (by omega) (nI_1 k)
    · iterate 1 (refine zv_step (bX7_hear 1) rfl rfl trivial ?_)
      exact zv_iret (bX7_hear 1) rfl (Or.inl rfl) (Nat.zero_le _) (Nat.zero_le _) ⟨h, A 8, _, rfl, rfl, hh, hw⟩
set_option maxHeartbeats 1000000 in
set_option maxRecDepth 20000 in
theorem mHear (f : Nat → zC) (o : Nat → Int32) (A : Nat → Nat → Int32) (J : Nat → Nat → Int64) {h : Nat} (hh : h ≤ 20) (hw : nnW h (A 8)) (x y : Int32) : zK 1 zX7_hear [.ref 76, .int x, .int y] (wR f (upd o 10 (nI h)) A J) (fun r w' => ∃ (l' : Nat) (g' : Nat → Int32) (R : Int32), r = some (.int R) ∧ w' = (wR f (upd o 10 (nI l')) (updA A 8 g') J) ∧ l' ≤ 20 ∧ nnW l' g') := by
  refine zK_of qX7_hear (by decide +kernel) rfl ?_
  iterate 4 (refine zv_step (bX7_hear 1) rfl rfl trivial ?_)
  refine zv_S3 (bX7_hear 1) rfl rfl rfl rfl ⟨rfl, rfl, rfl⟩ ⟨by decide, by decide⟩ ⟨Nat.zero_le _, Nat.zero_le _⟩ (mIn _ _ _ _ (a := 1) (b := 5) (by decide) (by decide)) ?_
  rintro _ _ ⟨rfl, ⟨g1, rfl⟩ | ⟨g1, rfl⟩⟩
  · obtain ⟨n, hn, rfl⟩ := in_nat (x := x) (b := 5) (by decide) ⟨by omega, by omega⟩
    iterate 1 (refine zv_step (bX7_hear 1) rfl rfl trivial ?_)
    refine zv_ift (by decide) ?_
    iterate 2 (refine zv_step (bX7_hear 1) rfl rfl trivial ?_)
    exact hearL1 f o A J hh hw hn y n 0 (by omega) rfl
  · skip
    iterate 1 (refine zv_step (bX7_hear 1) rfl rfl trivial ?_)
    refine zv_iff (by decide) ?_
    iterate 1 (refine zv_step (bX7_hear 1) rfl rfl trivial ?_)
    exact zv_iret (bX7_hear 1) rfl (Or.inl rfl) (Nat.zero_le _) (Nat.zero_le _) ⟨h, A 8, _, rfl, rfl, hh, hw⟩
