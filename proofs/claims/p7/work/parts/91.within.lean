def wiP (E : Nat → Nat) (L : Nat → Nat → Nat) (k i j : Nat) : Nat → Nat → Nat → Nat
  | 0, _, n => n
  | c + 1, m, n => wiP E L k i j c (m + 1) (if E m = 18 + k then plW n (tmW (L i m) (L (m + 1) j)) else n)
/-- in how many ways a span is said by a NODE of KIND k without begin and end -/
def wi (E : Nat → Nat) (G : Nat → Int32) (L : Nat → Nat → Nat) (k i j : Nat) : Nat :=
  if j ≤ i then 0 else
  if k = 0 then (if j - i = 1 ∧ E i < 10 ∧ G (E i) = 0 then 1 else 0) else
  if k = 1 then (if isNumB E i j = true then 1 else 0) else
  if k ≤ 6 then wiP E L k i j (j - 1 - (i + 1)) (i + 1) 0 else
  if k = 7 then (if E i = 25 ∧ 1 < j - i then L (i + 1) j else 0) else
  if k = 8 then (if E i = 26 ∧ E (j - 1) = 27 ∧ 2 < j - i then L (i + 1) (j - 1) else 0) else
  (if E i < 10 ∧ ¬ G (E i) = 0 ∧ 2 < j - i ∧ E (i + 1) = 28 then L (i + 2) j else 0)
theorem wi_n {E : Nat → Nat} {G : Nat → Int32} {L : Nat → Nat → Nat} {k i j : Nat} (h : j ≤ i) : wi E G L k i j = 0 := if_pos h
theorem wi_0 {E : Nat → Nat} {G : Nat → Int32} {L : Nat → Nat → Nat} {i j : Nat} (h : i < j) : wi E G L 0 i j = if j - i = 1 ∧ E i < 10 ∧ G (E i) = 0 then 1 else 0 := by
  unfold wi
  rw [if_neg (by omega), if_pos rfl]
theorem wi_1 {E : Nat → Nat} {G : Nat → Int32} {L : Nat → Nat → Nat} {i j : Nat} (h : i < j) : wi E G L 1 i j = if isNumB E i j = true then 1 else 0 := by
  unfold wi
  rw [if_neg (by omega), if_neg (by decide), if_pos rfl]
theorem wi_2 {E : Nat → Nat} {G : Nat → Int32} {L : Nat → Nat → Nat} {k i j : Nat} (h : i < j) (k2 : 2 ≤ k) (k6 : k ≤ 6) : wi E G L k i j = wiP E L k i j (j - 1 - (i + 1)) (i + 1) 0 := by
  unfold wi
  rw [if_neg (by omega), if_neg (by omega), if_neg (by omega), if_pos k6]
theorem wi_7 {E : Nat → Nat} {G : Nat → Int32} {L : Nat → Nat → Nat} {i j : Nat} (h : i < j) : wi E G L 7 i j = if E i = 25 ∧ 1 < j - i then L (i + 1) j else 0 := by
  unfold wi
  rw [if_neg (by omega), if_neg (by decide), if_neg (by decide), if_neg (by decide), if_pos rfl]
theorem wi_8 {E : Nat → Nat} {G : Nat → Int32} {L : Nat → Nat → Nat} {i j : Nat} (h : i < j) : wi E G L 8 i j = if E i = 26 ∧ E (j - 1) = 27 ∧ 2 < j - i then L (i + 1) (j - 1) else 0 := by
  unfold wi
  rw [if_neg (by omega), if_neg (by decide), if_neg (by decide), if_neg (by decide), if_neg (by decide), if_pos rfl]
theorem wi_9 {E : Nat → Nat} {G : Nat → Int32} {L : Nat → Nat → Nat} {i j : Nat} (h : i < j) : wi E G L 9 i j = if E i < 10 ∧ ¬ G (E i) = 0 ∧ 2 < j - i ∧ E (i + 1) = 28 then L (i + 2) j else 0 := by
  unfold wi
  rw [if_neg (by omega), if_neg (by decide), if_neg (by decide), if_neg (by decide), if_neg (by decide), if_neg (by decide)]
theorem wiP_le {E : Nat → Nat} {L : Nat → Nat → Nat} {k i j : Nat} : ∀ (c m n : Nat), n ≤ cap → wiP E L k i j c m n ≤ cap
  | 0, _, n, h => h
  | c + 1, m, n, h => by
    show wiP E L k i j c (m + 1) _ ≤ cap
    refine wiP_le c (m + 1) _ ?_
    split
    · exact (plW_le _ _).1
    · exact h
/-- the table of sums holds L for all spans within i .. j that are shorter -/
def okL (J : Nat → Nat → Int64) (L : Nat → Nat → Nat) (i j : Nat) : Prop := ∀ a b, i ≤ a → a < b → b ≤ j → b - a < j - i → J 1 (21 * a + b) = lN (L a b) ∧ L a b ≤ cap
theorem wi_le {E : Nat → Nat} {G : Nat → Int32} {J : Nat → Nat → Int64} {L : Nat → Nat → Nat} {k i j : Nat} (hL : okL J L i j) : wi E G L k i j ≤ cap := by
  unfold wi
  split
  · exact Nat.zero_le _
  · split
    · split <;> decide
    · split
      · split <;> decide
      · split
        · exact wiP_le _ _ _ (Nat.zero_le _)
        · split
          · split
            · exact (hL (i + 1) j (by omega) (by omega) (by omega) (by omega)).2
            · exact Nat.zero_le _
          · split
            · split
              · exact (hL (i + 1) (j - 1) (by omega) (by omega) (by omega) (by omega)).2
              · exact Nat.zero_le _
            · split
              · exact (hL (i + 2) j (by omega) (by omega) (by omega) (by omega)).2
              · exact Nat.zero_le _
theorem ix21 {a b : Nat} : c8 21 * nI a + nI b = nI (21 * a + b) := by
  show Int32.ofNat 21 * Int32.ofNat a + Int32.ofNat b = _
  rw [← Int32.ofNat_mul, ← Int32.ofNat_add]
  rfl
set_option maxHeartbeats 1000000 in
set_option maxRecDepth 20000 in
theorem mWi0 (f : Nat → zC) (o : Nat → Int32) (A : Nat → Nat → Int32) (J : Nat → Nat → Int64) {h : Nat} (hh : h ≤ 20) (hw : nnW h (A 8)) {i j : Nat} (hij : i < j) (hj : j ≤ h) {L : Nat → Nat → Nat} (hL : okL J L i j) : zK 2 zX7_within [.ref 76, .int (nI 0), .int (nI i), .int (nI j)] (wR f o A J) (fun r w' => w' = (wR f o A J) ∧ r = some (.long (lN (wi (eW A) (A 6) L 0 i j)))) := by
  refine zK_of qX7_within (by decide +kernel) rfl ?_
  iterate 3 (refine zv_step (bX7_within 2) rfl rfl trivial ?_)
  refine zv_ift (nI_lt (by omega) (by omega)) ?_
  iterate 2 (refine zv_step (bX7_within 2) rfl rfl trivial ?_)
  refine zv_iff (by decide) ?_
  iterate 5 (refine zv_step (bX7_within 2) rfl rfl trivial ?_)
  refine zv_ifb (fun h15 => ?_) (fun h15 => ?_)
  · have q15 : ¬ j - i = 1 := fun e => h15 (by show nI j - nI i = nI 1; rw [nI_sub (a := j) (b := i) (by omega), e])
    iterate 1 (refine zv_step (bX7_within 2) rfl rfl trivial ?_)
    exact zv_lret (bX7_within 2) rfl rfl (Nat.zero_le _) (Nat.zero_le _) ⟨rfl, by rw [wi_0 hij, if_neg (fun q => q15 q.1)] <;> rfl⟩
  · have q15 : j - i = 1 := by
      have h9 : nI j - nI i = nI 1 := Decidable.not_not.mp h15
      rwa [nI_sub (a := j) (b := i) (by omega), nI_eq (by omega) (by decide)] at h9
    iterate 3 (refine zv_step (bX7_within 2) rfl rfl trivial ?_)
    refine zv_iale (bX7_within 2) rfl rfl (vp_in_nI (by omega) (by decide)) (show A 8 (nI i).toNatClampNeg = nI (eW A (i)) by rw [nI_clamp (by omega)]; exact (eW_of hw (by omega)).1) ?_
    iterate 2 (refine zv_step (bX7_within 2) rfl rfl trivial ?_)
    refine zv_ifb (fun h26 => ?_) (fun h26 => ?_)
    · have q26 : ¬ eW A (i) < 10 := fun e => absurd (nI_lt e (by decide)) (Int32.not_lt.mpr h26)
      iterate 1 (refine zv_step (bX7_within 2) rfl rfl trivial ?_)
      exact zv_lret (bX7_within 2) rfl rfl (Nat.zero_le _) (Nat.zero_le _) ⟨rfl, by rw [wi_0 hij, if_neg (fun q => q26 q.2.1)] <;> rfl⟩
    · have q26 : eW A (i) < 10 := by
        have h9 : nI (eW A (i)) < nI 10 := Int32.not_le.mp h26
        have := (eW_of hw (show i < h by omega)).2
        rwa [nI_ltI (by omega) (by decide)] at h9
      iterate 5 (refine zv_step (bX7_within 2) rfl rfl trivial ?_)
      refine zv_iale (bX7_within 2) rfl rfl (vp_in_nI (by omega) (by decide)) (show A 8 (nI i).toNatClampNeg = nI (eW A (i)) by rw [nI_clamp (by omega)]; exact (eW_of hw (by omega)).1) ?_
      refine zv_zale (bX7_within 2) rfl rfl (show vp_in (nI (eW A i)) 10 from vp_in_nI (by omega) (by decide)) (show A 6 (nI (eW A i)).toNatClampNeg = A 6 (eW A i) by rw [nI_clamp (by omega)]) ?_
      iterate 1 (refine zv_step (bX7_within 2) rfl rfl trivial ?_)
      refine zv_ifb (fun h40 => ?_) (fun h40 => ?_)
      · iterate 1 (refine zv_step (bX7_within 2) rfl rfl trivial ?_)
        exact zv_lret (bX7_within 2) rfl rfl (Nat.zero_le _) (Nat.zero_le _) ⟨rfl, by rw [wi_0 hij, if_neg (fun q => h40 q.2.2)] <;> rfl⟩
      · iterate 2 (refine zv_step (bX7_within 2) rfl rfl trivial ?_)
        exact zv_lret (bX7_within 2) rfl rfl (Nat.zero_le _) (Nat.zero_le _) ⟨rfl, by rw [wi_0 hij, if_pos ⟨q15, q26, Decidable.not_not.mp h40⟩] <;> rfl⟩
set_option maxHeartbeats 1000000 in
set_option maxRecDepth 20000 in
theorem mWi1 (f : Nat → zC) (o : Nat → Int32) (A : Nat → Nat → Int32) (J : Nat → Nat → Int64) {h : Nat} (hh : h ≤ 20) (hw : nnW h (A 8)) {i j : Nat} (hij : i < j) (hj : j ≤ h) {L : Nat → Nat → Nat} (hL : okL J L i j) : zK 2 zX7_within [.ref 76, .int (nI 1), .int (nI i), .int (nI j)] (wR f o A J) (fun r w' => w' = (wR f o A J) ∧ r = some (.long (lN (wi (eW A) (A 6) L 1 i j)))) := by
  refine zK_of qX7_within (by decide +kernel) rfl ?_
  iterate 3 (refine zv_step (bX7_within 2) rfl rfl trivial ?_)
  refine zv_ift (nI_lt (by omega) (by omega)) ?_
  iterate 2 (refine zv_step (bX7_within 2) rfl rfl trivial ?_)
  refine zv_ift (by decide) ?_
  iterate 3 (refine zv_step (bX7_within 2) rfl rfl trivial ?_)
  refine zv_iff (by decide) ?_
  iterate 3 (refine zv_step (bX7_within 2) rfl rfl trivial ?_)
  refine zv_V2 (bX7_within 2) rfl rfl rfl rfl rfl rfl rfl ⟨rfl, rfl, rfl⟩ ⟨by decide, by decide⟩ ⟨Nat.zero_le _, Nat.zero_le _⟩ (mIsNumber f o A J hh hw hij hj) ?_
  rintro _ _ ⟨rfl, ⟨g1, rfl⟩ | ⟨g1, rfl⟩⟩
  · skip
    iterate 1 (refine zv_step (bX7_within 2) rfl rfl trivial ?_)
    refine zv_iff (by decide) ?_
    iterate 2 (refine zv_step (bX7_within 2) rfl rfl trivial ?_)
    exact zv_lret (bX7_within 2) rfl rfl (Nat.zero_le _) (Nat.zero_le _) ⟨rfl, by rw [wi_1 hij, if_pos g1] <;> rfl⟩
  · skip
    iterate 1 (refine zv_step (bX7_within 2) rfl rfl trivial ?_)
    refine zv_ift (by decide) ?_
    iterate 1 (refine zv_step (bX7_within 2) rfl rfl trivial ?_)
    exact zv_lret (bX7_within 2) rfl rfl (Nat.zero_le _) (Nat.zero_le _) ⟨rfl, by rw [wi_1 hij, if_neg (by rw [g1]; decide)] <;> rfl⟩
set_option maxHeartbeats 1000000 in
set_option maxRecDepth 20000 in
theorem withL (f : Nat → zC) (o : Nat → Int32) (A : Nat → Nat → Int32) (J : Nat → Nat → Int64) {h : Nat} (hh : h ≤ 20) (hw : nnW h (A 8)) {i j : Nat} (hij : i < j) (hj : j ≤ h) {L : Nat → Nat → Nat} (hL : okL J L i j) {k : Nat} (k2 : 2 ≤ k) (k6 : k ≤ 6) {n0 : Nat} : ∀ (c m n : Nat), j - 1 - m = c → i + 1 ≤ m → m ≤ 21 → n ≤ cap → ∀ {x6 : Int32}, x6 = nI m → zV (zMo 2 zX7_within) false n0 0 0 84 [(6, .int x6), (4, .long (lN n)), (0, .ref 76), (1, .int (nI k)), (2, .int (nI i)), (3, .int (nI j))] [] (wR f o A J) (fun r w' => w' = (wR f o A J) ∧ r = some (.long (lN (wiP (eW A) L k i j c m n)))) := by
  intro c
  induction c with
  | zero =>
    intro m n hc hm hm2 hn x6 e6
    subst e6
    iterate 5 (refine zv_step (bX7_within 2) rfl rfl trivial ?_)
    refine zv_ift (show nI j - Int32.ofInt 1 ≤ nI m by rw [sub_1 (by omega)]; exact nI_le (by omega) (by omega)) ?_
    iterate 1 (refine zv_step (bX7_within 2) rfl rfl trivial ?_)
    exact zv_lret (bX7_within 2) rfl rfl (Nat.zero_le _) (Nat.zero_le _) ⟨rfl, rfl⟩
  | succ c ih =>
    intro m n hc hm hm2 hn x6 e6
    subst e6
    iterate 5 (refine zv_step (bX7_within 2) rfl rfl trivial ?_)
    refine zv_iff (show ¬ nI j - Int32.ofInt 1 ≤ nI m by rw [sub_1 (by omega)]; exact fun h => absurd ((nI_leI (by omega) (by omega)).mp h) (by omega)) ?_
    iterate 3 (refine zv_step (bX7_within 2) rfl rfl trivial ?_)
    refine zv_iale (bX7_within 2) rfl rfl (vp_in_nI (by omega) (by decide)) (show A 8 (nI m).toNatClampNeg = nI (eW A (m)) by rw [nI_clamp (by omega)]; exact (eW_of hw (by omega)).1) ?_
    iterate 4 (refine zv_step (bX7_within 2) rfl rfl trivial ?_)
    refine zv_ifb (fun h103 => ?_) (fun h103 => ?_)
    · have q103 : ¬ eW A m = 18 + k := fun e => h103 (by show nI (eW A m) = nI 18 + nI k; rw [nI_add, e])
      iterate 4 (refine zv_step (bX7_within 2) rfl rfl trivial ?_)
      have e9 : wiP (eW A) L k i j (c + 1) m n = wiP (eW A) L k i j c (m + 1) (n) := by
        show wiP _ _ _ _ _ c (m + 1) _ = _
        rw [if_neg q103]
      rw [e9]
      refine zv_locals (l := [(6, .int (nI m + Int32.ofInt 1)), (4, .long (lN (n))), (0, .ref 76), (1, .int (nI k)), (2, .int (nI i)), (3, .int (nI j))]) (l' := [(6, .int (nI m + Int32.ofInt 1)), (4, .long (lN (n))), (0, .ref 76), (1, .int (nI k)), (2, .int (nI i)), (3, .int (nI j))]) (fun q h => h) (ih (m + 1) (n) (by omega) (by omega) (by omega) hn (nI_1 m))
    · have q103 : eW A m = 18 + k := by
        have h9 : nI (eW A m) = nI 18 + nI k := Decidable.not_not.mp h103
        have := (eW_of hw (show m < h by omega)).2
        rwa [nI_add, nI_eq (by omega) (by omega)] at h9
      iterate 8 (refine zv_step (bX7_within 2) rfl rfl trivial ?_)
      refine zv_lale (bX7_within 2) rfl rfl (show vp_in (c8 21 * nI i + nI m) 441 by rw [ix21]; exact vp_in_nI (by omega) (by decide)) (show J 1 (c8 21 * nI i + nI m).toNatClampNeg = lN (L (i) (m)) by rw [ix21, nI_clamp (by omega)]; exact (hL (i) (m) (by omega) (by omega) (by omega) (by omega)).1) ?_
      iterate 9 (refine zv_step (bX7_within 2) rfl rfl trivial ?_)
      refine zv_lale (bX7_within 2) rfl rfl (show vp_in (c8 21 * (nI m + Int32.ofInt 1) + nI j) 441 by rw [show nI m + Int32.ofInt 1 = nI (m + 1) from nI_1 m, ix21]; exact vp_in_nI (by omega) (by decide)) (show J 1 (c8 21 * (nI m + Int32.ofInt 1) + nI j).toNatClampNeg = lN (L (m + 1) (j)) by rw [show nI m + Int32.ofInt 1 = nI (m + 1) from nI_1 m, ix21, nI_clamp (by omega)]; exact (hL (m + 1) (j) (by omega) (by omega) (by omega) (by omega)).1) ?_
      refine zv_S2 (bX7_within 2) rfl rfl rfl rfl ⟨rfl, rfl, rfl⟩ ⟨by decide, by decide⟩ ⟨Nat.zero_le _, Nat.zero_le _⟩ (mMul _ (hL i m (by omega) (by omega) (by omega) (by omega)).2 (hL (m + 1) j (by omega) (by omega) (by omega) (by omega)).2) ?_
      rintro _ _ ⟨rfl, rfl⟩
      refine zv_S2 (bX7_within 2) rfl rfl rfl rfl ⟨rfl, rfl, rfl⟩ ⟨by decide, by decide⟩ ⟨Nat.zero_le _, Nat.zero_le _⟩ (mPlus _ hn (tmW_le _ _).1) ?_
      rintro _ _ ⟨rfl, rfl⟩
      iterate 4 (refine zv_step (bX7_within 2) rfl rfl trivial ?_)
      have e9 : wiP (eW A) L k i j (c + 1) m n = wiP (eW A) L k i j c (m + 1) (plW n (tmW (L i m) (L (m + 1) j))) := by
        show wiP _ _ _ _ _ c (m + 1) _ = _
        rw [if_pos q103]
      rw [e9]
      refine zv_locals (l := [(6, .int (nI m + Int32.ofInt 1)), (4, .long (lN (plW n (tmW (L i m) (L (m + 1) j))))), (0, .ref 76), (1, .int (nI k)), (2, .int (nI i)), (3, .int (nI j))]) (l' := [(6, .int (nI m + Int32.ofInt 1)), (4, .long (lN (plW n (tmW (L i m) (L (m + 1) j))))), (0, .ref 76), (1, .int (nI k)), (2, .int (nI i)), (3, .int (nI j))]) (fun q h => h) (ih (m + 1) (plW n (tmW (L i m) (L (m + 1) j))) (by omega) (by omega) (by omega) (plW_le _ _).1 (nI_1 m))
set_option maxHeartbeats 1000000 in
set_option maxRecDepth 20000 in
theorem mWi2 (f : Nat → zC) (o : Nat → Int32) (A : Nat → Nat → Int32) (J : Nat → Nat → Int64) {h : Nat} (hh : h ≤ 20) (hw : nnW h (A 8)) {i j : Nat} (hij : i < j) (hj : j ≤ h) {L : Nat → Nat → Nat} (hL : okL J L i j) {k : Nat} (k2 : 2 ≤ k) (k6 : k ≤ 6) : zK 2 zX7_within [.ref 76, .int (nI k), .int (nI i), .int (nI j)] (wR f o A J) (fun r w' => w' = (wR f o A J) ∧ r = some (.long (lN (wi (eW A) (A 6) L k i j)))) := by
  refine zK_of qX7_within (by decide +kernel) rfl ?_
  iterate 3 (refine zv_step (bX7_within 2) rfl rfl trivial ?_)
  refine zv_ift (nI_lt (by omega) (by omega)) ?_
  iterate 2 (refine zv_step (bX7_within 2) rfl rfl trivial ?_)
  refine zv_ift (nI_ne0 (by omega) (by omega)) ?_
  iterate 3 (refine zv_step (bX7_within 2) rfl rfl trivial ?_)
  refine zv_ift (fun e => absurd ((nI_eq (b := 1) (by omega) (by decide)).mp e) (by omega)) ?_
  iterate 1 (refine zv_step (bX7_within 2) rfl rfl trivial ?_)
  refine zv_S1 (bX7_within 2) rfl rfl rfl rfl ⟨rfl, rfl, rfl⟩ ⟨by decide, by decide⟩ ⟨Nat.zero_le _, Nat.zero_le _⟩ (mTwoY _ k2 k6) ?_
  rintro _ _ ⟨rfl, rfl⟩
  iterate 1 (refine zv_step (bX7_within 2) rfl rfl trivial ?_)
  refine zv_iff (by decide) ?_
  iterate 6 (refine zv_step (bX7_within 2) rfl rfl trivial ?_)
  rw [wi_2 hij k2 k6]
  refine zv_locals (l := [(6, .int (nI i + Int32.ofInt 1)), (4, .long (lN 0)), (0, .ref 76), (1, .int (nI k)), (2, .int (nI i)), (3, .int (nI j))]) (l' := [(6, .int (nI i + Int32.ofInt 1)), (4, .long (lN 0)), (0, .ref 76), (1, .int (nI k)), (2, .int (nI i)), (3, .int (nI j))]) (fun q h => h) (withL f o A J hh hw hij hj hL k2 k6 (j - 1 - (i + 1)) (i + 1) 0 rfl (Nat.le_refl _) (by omega) (Nat.zero_le _) (nI_1 i))
set_option maxHeartbeats 1000000 in
set_option maxRecDepth 20000 in
theorem mWi7 (f : Nat → zC) (o : Nat → Int32) (A : Nat → Nat → Int32) (J : Nat → Nat → Int64) {h : Nat} (hh : h ≤ 20) (hw : nnW h (A 8)) {i j : Nat} (hij : i < j) (hj : j ≤ h) {L : Nat → Nat → Nat} (hL : okL J L i j) : zK 2 zX7_within [.ref 76, .int (nI 7), .int (nI i), .int (nI j)] (wR f o A J) (fun r w' => w' = (wR f o A J) ∧ r = some (.long (lN (wi (eW A) (A 6) L 7 i j)))) := by
  refine zK_of qX7_within (by decide +kernel) rfl ?_
  iterate 3 (refine zv_step (bX7_within 2) rfl rfl trivial ?_)
  refine zv_ift (nI_lt (by omega) (by omega)) ?_
  iterate 2 (refine zv_step (bX7_within 2) rfl rfl trivial ?_)
  refine zv_ift (by decide) ?_
  iterate 3 (refine zv_step (bX7_within 2) rfl rfl trivial ?_)
  refine zv_ift (by decide) ?_
  iterate 1 (refine zv_step (bX7_within 2) rfl rfl trivial ?_)
  refine zv_S1 (bX7_within 2) rfl rfl rfl rfl ⟨rfl, rfl, rfl⟩ ⟨by decide, by decide⟩ ⟨Nat.zero_le _, Nat.zero_le _⟩ (mTwoN _ (k := 7) (by decide) (by decide)) ?_
  rintro _ _ ⟨rfl, rfl⟩
  iterate 1 (refine zv_step (bX7_within 2) rfl rfl trivial ?_)
  refine zv_ift (by decide) ?_
  iterate 3 (refine zv_step (bX7_within 2) rfl rfl trivial ?_)
  refine zv_iff (by decide) ?_
  iterate 3 (refine zv_step (bX7_within 2) rfl rfl trivial ?_)
  refine zv_iale (bX7_within 2) rfl rfl (vp_in_nI (by omega) (by decide)) (show A 8 (nI i).toNatClampNeg = nI (eW A (i)) by rw [nI_clamp (by omega)]; exact (eW_of hw (by omega)).1) ?_
  iterate 2 (refine zv_step (bX7_within 2) rfl rfl trivial ?_)
  refine zv_ifb (fun h170 => ?_) (fun h170 => ?_)
  · have q170 : ¬ eW A (i) = 25 := fun e => h170 (by rw [e]; rfl)
    iterate 1 (refine zv_step (bX7_within 2) rfl rfl trivial ?_)
    exact zv_lret (bX7_within 2) rfl rfl (Nat.zero_le _) (Nat.zero_le _) ⟨rfl, by rw [wi_7 hij, if_neg (fun q => q170 q.1)] <;> rfl⟩
  · have q170 : eW A (i) = 25 := (nI_eq (by have := (eW_of hw (show i < h by omega)).2; omega) (by decide)).mp (Decidable.not_not.mp h170)
    iterate 5 (refine zv_step (bX7_within 2) rfl rfl trivial ?_)
    refine zv_ifb (fun h177 => ?_) (fun h177 => ?_)
    · have q177 : ¬ 1 < j - i := by
        have h9 : nI j - nI i ≤ nI 1 := h177
        rw [nI_sub (a := j) (b := i) (by omega), nI_leI (by omega) (by decide)] at h9
        omega
      iterate 1 (refine zv_step (bX7_within 2) rfl rfl trivial ?_)
      exact zv_lret (bX7_within 2) rfl rfl (Nat.zero_le _) (Nat.zero_le _) ⟨rfl, by rw [wi_7 hij, if_neg (fun q => q177 q.2)] <;> rfl⟩
    · have q177 : 1 < j - i := by
        have h9 : ¬ nI j - nI i ≤ nI 1 := h177
        rw [nI_sub (a := j) (b := i) (by omega), nI_leI (by omega) (by decide)] at h9
        omega
      iterate 9 (refine zv_step (bX7_within 2) rfl rfl trivial ?_)
      refine zv_lale (bX7_within 2) rfl rfl (show vp_in (c8 21 * (nI i + Int32.ofInt 1) + nI j) 441 by rw [show nI i + Int32.ofInt 1 = nI (i + 1) from nI_1 i, ix21]; exact vp_in_nI (by omega) (by decide)) (show J 1 (c8 21 * (nI i + Int32.ofInt 1) + nI j).toNatClampNeg = lN (L (i + 1) (j)) by rw [show nI i + Int32.ofInt 1 = nI (i + 1) from nI_1 i, ix21, nI_clamp (by omega)]; exact (hL (i + 1) (j) (by omega) (by omega) (by omega) (by omega)).1) ?_
      iterate 1 (refine zv_step (bX7_within 2) rfl rfl trivial ?_)
      exact zv_lret (bX7_within 2) rfl rfl (Nat.zero_le _) (Nat.zero_le _) ⟨rfl, by rw [wi_7 hij, if_pos ⟨q170, q177⟩] <;> rfl⟩
set_option maxHeartbeats 1000000 in
set_option maxRecDepth 20000 in
theorem mWi8 (f : Nat → zC) (o : Nat → Int32) (A : Nat → Nat → Int32) (J : Nat → Nat → Int64) {h : Nat} (hh : h ≤ 20) (hw : nnW h (A 8)) {i j : Nat} (hij : i < j) (hj : j ≤ h) {L : Nat → Nat → Nat} (hL : okL J L i j) : zK 2 zX7_within [.ref 76, .int (nI 8), .int (nI i), .int (nI j)] (wR f o A J) (fun r w' => w' = (wR f o A J) ∧ r = some (.long (lN (wi (eW A) (A 6) L 8 i j)))) := by
  refine zK_of qX7_within (by decide +kernel) rfl ?_
  iterate 3 (refine zv_step (bX7_within 2) rfl rfl trivial ?_)
  refine zv_ift (nI_lt (by omega) (by omega)) ?_
  iterate 2 (refine zv_step (bX7_within 2) rfl rfl trivial ?_)
  refine zv_ift (by decide) ?_
  iterate 3 (refine zv_step (bX7_within 2) rfl rfl trivial ?_)
  refine zv_ift (by decide) ?_
  iterate 1 (refine zv_step (bX7_within 2) rfl rfl trivial ?_)
  refine zv_S1 (bX7_within 2) rfl rfl rfl rfl ⟨rfl, rfl, rfl⟩ ⟨by decide, by decide⟩ ⟨Nat.zero_le _, Nat.zero_le _⟩ (mTwoN _ (k := 8) (by decide) (by decide)) ?_
  rintro _ _ ⟨rfl, rfl⟩
  iterate 1 (refine zv_step (bX7_within 2) rfl rfl trivial ?_)
  refine zv_ift (by decide) ?_
  iterate 3 (refine zv_step (bX7_within 2) rfl rfl trivial ?_)
  refine zv_ift (by decide) ?_
  iterate 3 (refine zv_step (bX7_within 2) rfl rfl trivial ?_)
  refine zv_iff (by decide) ?_
  iterate 3 (refine zv_step (bX7_within 2) rfl rfl trivial ?_)
  refine zv_iale (bX7_within 2) rfl rfl (vp_in_nI (by omega) (by decide)) (show A 8 (nI i).toNatClampNeg = nI (eW A (i)) by rw [nI_clamp (by omega)]; exact (eW_of hw (by omega)).1) ?_
  iterate 2 (refine zv_step (bX7_within 2) rfl rfl trivial ?_)
  refine zv_ifb (fun h212 => ?_) (fun h212 => ?_)
  · have q212 : ¬ eW A (i) = 26 := fun e => h212 (by rw [e]; rfl)
    iterate 1 (refine zv_step (bX7_within 2) rfl rfl trivial ?_)
    exact zv_lret (bX7_within 2) rfl rfl (Nat.zero_le _) (Nat.zero_le _) ⟨rfl, by rw [wi_8 hij, if_neg (fun q => q212 q.1)] <;> rfl⟩
  · have q212 : eW A (i) = 26 := (nI_eq (by have := (eW_of hw (show i < h by omega)).2; omega) (by decide)).mp (Decidable.not_not.mp h212)
    iterate 5 (refine zv_step (bX7_within 2) rfl rfl trivial ?_)
    refine zv_iale (bX7_within 2) rfl rfl (show vp_in (nI j - Int32.ofInt 1) 20 by rw [show nI j - Int32.ofInt 1 = nI (j - 1) from sub_1 (by omega)]; exact vp_in_nI (by omega) (by decide)) (show A 8 (nI j - Int32.ofInt 1).toNatClampNeg = nI (eW A (j - 1)) by rw [show nI j - Int32.ofInt 1 = nI (j - 1) from sub_1 (by omega), nI_clamp (by omega)]; exact (eW_of hw (by omega)).1) ?_
    iterate 2 (refine zv_step (bX7_within 2) rfl rfl trivial ?_)
    refine zv_ifb (fun h225 => ?_) (fun h225 => ?_)
    · have q225 : ¬ eW A (j - 1) = 27 := fun e => h225 (by rw [e]; rfl)
      iterate 1 (refine zv_step (bX7_within 2) rfl rfl trivial ?_)
      exact zv_lret (bX7_within 2) rfl rfl (Nat.zero_le _) (Nat.zero_le _) ⟨rfl, by rw [wi_8 hij, if_neg (fun q => q225 q.2.1)] <;> rfl⟩
    · have q225 : eW A (j - 1) = 27 := (nI_eq (by have := (eW_of hw (show j - 1 < h by omega)).2; omega) (by decide)).mp (Decidable.not_not.mp h225)
      iterate 5 (refine zv_step (bX7_within 2) rfl rfl trivial ?_)
      refine zv_ifb (fun h232 => ?_) (fun h232 => ?_)
      · have q232 : ¬ 2 < j - i := by
          have h9 : nI j - nI i ≤ nI 2 := h232
          rw [nI_sub (a := j) (b := i) (by omega), nI_leI (by omega) (by decide)] at h9
          omega
        iterate 1 (refine zv_step (bX7_within 2) rfl rfl trivial ?_)
        exact zv_lret (bX7_within 2) rfl rfl (Nat.zero_le _) (Nat.zero_le _) ⟨rfl, by rw [wi_8 hij, if_neg (fun q => q232 q.2.2)] <;> rfl⟩
      · have q232 : 2 < j - i := by
          have h9 : ¬ nI j - nI i ≤ nI 2 := h232
          rw [nI_sub (a := j) (b := i) (by omega), nI_leI (by omega) (by decide)] at h9
          omega
        iterate 11 (refine zv_step (bX7_within 2) rfl rfl trivial ?_)
        refine zv_lale (bX7_within 2) rfl rfl (show vp_in (c8 21 * (nI i + Int32.ofInt 1) + nI j - Int32.ofInt 1) 441 by rw [show c8 21 * (nI i + Int32.ofInt 1) + nI j - Int32.ofInt 1 = nI (21 * (i + 1) + (j - 1)) by rw [show nI i + Int32.ofInt 1 = nI (i + 1) from nI_1 i, ix21, sub_1 (by omega)]; congr 1; omega]; exact vp_in_nI (by omega) (by decide)) (show J 1 (c8 21 * (nI i + Int32.ofInt 1) + nI j - Int32.ofInt 1).toNatClampNeg = lN (L (i + 1) (j - 1)) by rw [show c8 21 * (nI i + Int32.ofInt 1) + nI j - Int32.ofInt 1 = nI (21 * (i + 1) + (j - 1)) by rw [show nI i + Int32.ofInt 1 = nI (i + 1) from nI_1 i, ix21, sub_1 (by omega)]; congr 1; omega, nI_clamp (by omega)]; exact (hL (i + 1) (j - 1) (by omega) (by omega) (by omega) (by omega)).1) ?_
        iterate 1 (refine zv_step (bX7_within 2) rfl rfl trivial ?_)
        exact zv_lret (bX7_within 2) rfl rfl (Nat.zero_le _) (Nat.zero_le _) ⟨rfl, by rw [wi_8 hij, if_pos ⟨q212, q225, q232⟩] <;> rfl⟩
set_option maxHeartbeats 1000000 in
set_option maxRecDepth 20000 in
theorem mWi9 (f : Nat → zC) (o : Nat → Int32) (A : Nat → Nat → Int32) (J : Nat → Nat → Int64) {h : Nat} (hh : h ≤ 20) (hw : nnW h (A 8)) {i j : Nat} (hij : i < j) (hj : j ≤ h) {L : Nat → Nat → Nat} (hL : okL J L i j) : zK 2 zX7_within [.ref 76, .int (nI 9), .int (nI i), .int (nI j)] (wR f o A J) (fun r w' => w' = (wR f o A J) ∧ r = some (.long (lN (wi (eW A) (A 6) L 9 i j)))) := by
  refine zK_of qX7_within (by decide +kernel) rfl ?_
  iterate 3 (refine zv_step (bX7_within 2) rfl rfl trivial ?_)
  refine zv_ift (nI_lt (by omega) (by omega)) ?_
  iterate 2 (refine zv_step (bX7_within 2) rfl rfl trivial ?_)
  refine zv_ift (by decide) ?_
  iterate 3 (refine zv_step (bX7_within 2) rfl rfl trivial ?_)
  refine zv_ift (by decide) ?_
  iterate 1 (refine zv_step (bX7_within 2) rfl rfl trivial ?_)
  refine zv_S1 (bX7_within 2) rfl rfl rfl rfl ⟨rfl, rfl, rfl⟩ ⟨by decide, by decide⟩ ⟨Nat.zero_le _, Nat.zero_le _⟩ (mTwoN _ (k := 9) (by decide) (by decide)) ?_
  rintro _ _ ⟨rfl, rfl⟩
  iterate 1 (refine zv_step (bX7_within 2) rfl rfl trivial ?_)
  refine zv_ift (by decide) ?_
  iterate 3 (refine zv_step (bX7_within 2) rfl rfl trivial ?_)
  refine zv_ift (by decide) ?_
  iterate 3 (refine zv_step (bX7_within 2) rfl rfl trivial ?_)
  refine zv_ift (by decide) ?_
  iterate 3 (refine zv_step (bX7_within 2) rfl rfl trivial ?_)
  refine zv_iale (bX7_within 2) rfl rfl (vp_in_nI (by omega) (by decide)) (show A 8 (nI i).toNatClampNeg = nI (eW A (i)) by rw [nI_clamp (by omega)]; exact (eW_of hw (by omega)).1) ?_
  iterate 2 (refine zv_step (bX7_within 2) rfl rfl trivial ?_)
  refine zv_ifb (fun h263 => ?_) (fun h263 => ?_)
  · have q263 : ¬ eW A (i) < 10 := fun e => absurd (nI_lt e (by decide)) (Int32.not_lt.mpr h263)
    iterate 1 (refine zv_step (bX7_within 2) rfl rfl trivial ?_)
    exact zv_lret (bX7_within 2) rfl rfl (Nat.zero_le _) (Nat.zero_le _) ⟨rfl, by rw [wi_9 hij, if_neg (fun q => q263 q.1)] <;> rfl⟩
  · have q263 : eW A (i) < 10 := by
      have h9 : nI (eW A (i)) < nI 10 := Int32.not_le.mp h263
      have := (eW_of hw (show i < h by omega)).2
      rwa [nI_ltI (by omega) (by decide)] at h9
    iterate 5 (refine zv_step (bX7_within 2) rfl rfl trivial ?_)
    refine zv_iale (bX7_within 2) rfl rfl (vp_in_nI (by omega) (by decide)) (show A 8 (nI i).toNatClampNeg = nI (eW A (i)) by rw [nI_clamp (by omega)]; exact (eW_of hw (by omega)).1) ?_
    refine zv_zale (bX7_within 2) rfl rfl (show vp_in (nI (eW A i)) 10 from vp_in_nI (by omega) (by decide)) (show A 6 (nI (eW A i)).toNatClampNeg = A 6 (eW A i) by rw [nI_clamp (by omega)]) ?_
    iterate 1 (refine zv_step (bX7_within 2) rfl rfl trivial ?_)
    refine zv_ifb (fun h277 => ?_) (fun h277 => ?_)
    · iterate 1 (refine zv_step (bX7_within 2) rfl rfl trivial ?_)
      exact zv_lret (bX7_within 2) rfl rfl (Nat.zero_le _) (Nat.zero_le _) ⟨rfl, by rw [wi_9 hij, if_neg (fun q => q.2.1 h277)] <;> rfl⟩
    · iterate 5 (refine zv_step (bX7_within 2) rfl rfl trivial ?_)
      refine zv_ifb (fun h284 => ?_) (fun h284 => ?_)
      · have q284 : ¬ 2 < j - i := by
          have h9 : nI j - nI i ≤ nI 2 := h284
          rw [nI_sub (a := j) (b := i) (by omega), nI_leI (by omega) (by decide)] at h9
          omega
        iterate 1 (refine zv_step (bX7_within 2) rfl rfl trivial ?_)
        exact zv_lret (bX7_within 2) rfl rfl (Nat.zero_le _) (Nat.zero_le _) ⟨rfl, by rw [wi_9 hij, if_neg (fun q => q284 q.2.2.1)] <;> rfl⟩
      · have q284 : 2 < j - i := by
          have h9 : ¬ nI j - nI i ≤ nI 2 := h284
          rw [nI_sub (a := j) (b := i) (by omega), nI_leI (by omega) (by decide)] at h9
          omega
        iterate 5 (refine zv_step (bX7_within 2) rfl rfl trivial ?_)
        refine zv_iale (bX7_within 2) rfl rfl (show vp_in (nI i + Int32.ofInt 1) 20 by rw [show nI i + Int32.ofInt 1 = nI (i + 1) from nI_1 i]; exact vp_in_nI (by omega) (by decide)) (show A 8 (nI i + Int32.ofInt 1).toNatClampNeg = nI (eW A (i + 1)) by rw [show nI i + Int32.ofInt 1 = nI (i + 1) from nI_1 i, nI_clamp (by omega)]; exact (eW_of hw (by omega)).1) ?_
        iterate 2 (refine zv_step (bX7_within 2) rfl rfl trivial ?_)
        refine zv_ifb (fun h297 => ?_) (fun h297 => ?_)
        · have q297 : ¬ eW A (i + 1) = 28 := fun e => h297 (by rw [e]; rfl)
          iterate 1 (refine zv_step (bX7_within 2) rfl rfl trivial ?_)
          exact zv_lret (bX7_within 2) rfl rfl (Nat.zero_le _) (Nat.zero_le _) ⟨rfl, by rw [wi_9 hij, if_neg (fun q => q297 q.2.2.2)] <;> rfl⟩
        · have q297 : eW A (i + 1) = 28 := (nI_eq (by have := (eW_of hw (show i + 1 < h by omega)).2; omega) (by decide)).mp (Decidable.not_not.mp h297)
          iterate 9 (refine zv_step (bX7_within 2) rfl rfl trivial ?_)
          refine zv_lale (bX7_within 2) rfl rfl (show vp_in (c8 21 * (nI i + Int32.ofInt 2) + nI j) 441 by rw [show nI i + Int32.ofInt 2 = nI (i + 2) from nI_2 i, ix21]; exact vp_in_nI (by omega) (by decide)) (show J 1 (c8 21 * (nI i + Int32.ofInt 2) + nI j).toNatClampNeg = lN (L (i + 2) (j)) by rw [show nI i + Int32.ofInt 2 = nI (i + 2) from nI_2 i, ix21, nI_clamp (by omega)]; exact (hL (i + 2) (j) (by omega) (by omega) (by omega) (by omega)).1) ?_
          iterate 1 (refine zv_step (bX7_within 2) rfl rfl trivial ?_)
          exact zv_lret (bX7_within 2) rfl rfl (Nat.zero_le _) (Nat.zero_le _) ⟨rfl, by rw [wi_9 hij, if_pos ⟨q263, h277, q284, q297⟩] <;> rfl⟩
set_option maxHeartbeats 1000000 in
set_option maxRecDepth 20000 in
theorem mWiN (f : Nat → zC) (o : Nat → Int32) (A : Nat → Nat → Int32) (J : Nat → Nat → Int64) {k i j : Nat} (hij : j ≤ i) (hi : i ≤ 30) {G : Nat → Int32} {E : Nat → Nat} {L : Nat → Nat → Nat} : zK 2 zX7_within [.ref 76, .int (nI k), .int (nI i), .int (nI j)] (wR f o A J) (fun r w' => w' = (wR f o A J) ∧ r = some (.long (lN (wi E G L k i j)))) := by
  refine zK_of qX7_within (by decide +kernel) rfl ?_
  iterate 3 (refine zv_step (bX7_within 2) rfl rfl trivial ?_)
  refine zv_iff (nI_nlt (by omega) (by omega)) ?_
  iterate 1 (refine zv_step (bX7_within 2) rfl rfl trivial ?_)
  exact zv_lret (bX7_within 2) rfl rfl (Nat.zero_le _) (Nat.zero_le _) ⟨rfl, by rw [wi_n hij]; rfl⟩
theorem mWithin (f : Nat → zC) (o : Nat → Int32) (A : Nat → Nat → Int32) (J : Nat → Nat → Int64) {h : Nat} (hh : h ≤ 20) (hw : nnW h (A 8)) {i j : Nat} (hi : i ≤ 30) (hj : j ≤ h) {L : Nat → Nat → Nat} (hL : okL J L i j) {k : Nat} (hk : k < 10) {x y z : Int32} (ex : x = nI k) (ey : y = nI i) (ez : z = nI j) : zK 2 zX7_within [.ref 76, .int x, .int y, .int z] (wR f o A J) (fun r w' => w' = (wR f o A J) ∧ r = some (.long (lN (wi (eW A) (A 6) L k i j)))) := by
  subst ex ey ez
  rcases Nat.lt_or_ge i j with hij | hij
  · rcases (show k = 0 ∨ k = 1 ∨ (2 ≤ k ∧ k ≤ 6) ∨ k = 7 ∨ k = 8 ∨ k = 9 by omega) with rfl | rfl | ⟨k2, k6⟩ | rfl | rfl | rfl
    · exact mWi0 f o A J hh hw hij hj hL
    · exact mWi1 f o A J hh hw hij hj hL
    · exact mWi2 f o A J hh hw hij hj hL k2 k6
    · exact mWi7 f o A J hh hw hij hj hL
    · exact mWi8 f o A J hh hw hij hj hL
    · exact mWi9 f o A J hh hw hij hj hL
  · exact mWiN f o A J hij hi
