section
def wiP (E : Nat → Nat) (L : Nat → Nat → Nat) (k i j : Nat) : Nat → Nat → Nat → Nat
  | 0, _, n => n
  | c + 1, m, n => wiP E L k i j c (m + 1) (if E m = 18 + k then plW n (tmW (L i m) (L (m + 1) j)) else n)
/-- in how many ways a span is said by a NODE of KIND k without begin and end -/
def wi (E : Nat → Nat) (G : Nat → Int32) (L : Nat → Nat → Nat) (k i j : Nat) : Nat :=
  if j ≤ i then 0 else
  if k = 0 then (if j - i = 1 ∧ E i < 10 ∧ G (E i) = 0 then 1 else 0) else
  if k = 1 then (if isNumB E i j = true then 1 else 0) else
  if k ≤ 6 then wiP E L k i j (j - 1 - (i + 1)) (i + 1) 0 else
  if k = 7 then (if E i = 25 ∧ 1 < j - i then L (i + 1) j else 0) else
  if k = 8 then (if E i = 26 ∧ E (j - 1) = 27 ∧ 2 < j - i then L (i + 1) (j - 1) else 0) else
  (if E i < 10 ∧ ¬ G (E i) = 0 ∧ 2 < j - i ∧ E (i + 1) = 28 then L (i + 2) j else 0)
theorem wi_n {E : Nat → Nat} {G : Nat → Int32} {L : Nat → Nat → Nat} {k i j : Nat} (h : j ≤ i) : wi E G L k i j = 0 := if_pos h
theorem wi_0 {E : Nat → Nat} {G : Nat → Int32} {L : Nat → Nat → Nat} {i j : Nat} (h : i < j) : wi E G L 0 i j = if j - i = 1 ∧ E i < 10 ∧ G (E i) = 0 then 1 else 0 := by
  unfold wi
  rw [if_neg (by omega), if_pos rfl]
theorem wi_1 {E : Nat → Nat} {G : Nat → Int32} {L : Nat → Nat → Nat} {i j : Nat} (h : i < j) : wi E G L 1 i j = if isNumB E i j = true then 1 else 0 := by
  unfold wi
  rw [if_neg (by omega), if_neg (by decide), if_pos rfl]
theorem wi_2 {E : Nat → Nat} {G : Nat → Int32} {L : Nat → Nat → Nat} {k i j : Nat} (h : i < j) (k2 : 2 ≤ k) (k6 : k ≤ 6) : wi E G L k i j = wiP E L k i j (j - 1 - (i + 1)) (i + 1) 0 := by
  unfold wi
  rw [if_neg (by omega), if_neg (by omega), if_neg (by omega), if_pos k6]
theorem wi_7 {E : Nat → Nat} {G : Nat → Int32} {L : Nat → Nat → Nat} {i j : Nat} (h : i < j) : wi E G L 7 i j = if E i = 25 ∧ 1 < j - i then L (i + 1) j else 0 := by
  unfold wi
  rw [if_neg (by omega), if_neg (by decide), if_neg (by decide), if_neg (by decide), if_pos rfl]
theorem wi_8 {E : Nat → Nat} {G : Nat → Int32} {L : Nat → Nat → Nat} {i j : Nat} (h : i < j) : wi E G L 8 i j = if E i = 26 ∧ E (j - 1) = 27 ∧ 2 < j - i then L (i + 1) (j - 1) else 0 := by
  unfold wi
  rw [if_neg (by omega), if_neg (by decide), if_neg (by decide), if_neg (by decide), if_neg (by decide), if_pos rfl]
theorem wi_9 {E : Nat → Nat} {G : Nat → Int32} {L : Nat → Nat → Nat} {i j : Nat} (h : i < j) : wi E G L 9 i j = if E i < 10 ∧ ¬ G (E i) = 0 ∧ 2 < j - i ∧ E (i + 1) = 28 then L (i + 2) j else 0 := by
  unfold wi
  rw [if_neg (by omega), if_neg (by decide), if_neg (by decide), if_neg (by decide), if_neg (by decide), if_neg (by decide)]
theorem wiP_le {E : Nat → Nat} {L : Nat → Nat → Nat} {k i j : Nat} : ∀ (c m n : Nat), n ≤ cap → wiP E L k i j c m n ≤ cap
  | 0, _, n, h => h
  | c + 1, m, n, h => by
    show wiP E L k i j c (m + 1) _ ≤ cap
    refine wiP_le c (m + 1) _ ?_
    split
    · exact (plW_le _ _).1
    · exact h
/-- the table of sums holds L for all spans within i .. j that are shorter -/
def okL (J : Nat → Nat → Int64) (L : Nat → Nat → Nat) (i j : Nat) : Prop := ∀ a b, i ≤ a → a < b → b ≤ j → b - a < j - i → J 1 (21 * a + b) = lN (L a b) ∧ L a b ≤ cap
theorem wi_le {E : Nat → Nat} {G : Nat → Int32} {J : Nat → Nat → Int64} {L : Nat → Nat → Nat} {k i j : Nat} (hL : okL J L i j) : wi E G L k i j ≤ cap := by
  unfold wi
  split
  · exact Nat.zero_le _
  · split
    · split <;> decide
    · split
      · split <;> decide
      · split
        · exact wiP_le _ _ _ (Nat.zero_le _)
        · split
          · split
            · exact (hL (i + 1) j (by omega) (by omega) (by omega) (by omega)).2
            · exact Nat.zero_le _
          · split
            · split
              · exact (hL (i + 1) (j - 1) (by omega) (by omega) (by omega) (by omega)).2
              · exact Nat.zero_le _
            · split
              · exact (hL (i + 2) j (by omega) (by omega) (by omega) (by omega)).2
              · exact Nat.zero_le _
theorem ix21 {a b : Nat} : c8 21 * nI a + nI b = nI (21 * a + b) := by
  show Int32.ofNat 21 * Int32.ofNat a + Int32.ofNat b = _
  rw [← Int32.ofNat_mul, ← Int32.ofNat_add]
  rfl
set_option maxHeartbeats 1000000 in
set_option maxRecDepth 20000 in
theorem mWi0 (f : Nat → zC) (o : Nat → Int32) (A : Nat → Nat → Int32) (J : Nat → Nat → Int64) {h : Nat} (hh : h ≤ 20) (hw : nnW h (A 8)) {i j : Nat} (hij : i < j) (hj : j ≤ h) {L : Nat → Nat → Nat} (hL : okL J L i j) : zK 2 zX7_within [.ref 76, .int (nI 0), .int (nI i), .int (nI j)] (wR f o A J) (fun r w' => w' = (wR f o A J) ∧ r = some (.long (lN (wi (eW A) (A 6) L 0 i j)))) := by
  refine zK_of qX7_within (by decide +kernel) rfl ?_
  iterate 3 (refine zv_step (bX7_within 2) rfl rfl trivial ?_)
  refine zv_ift (nI_lt (by omega) (by omega)) ?_
  iterate 2 (refine zv_step (bX7_within 2) rfl rfl trivial ?_)
  refine zv_iff (by decide) ?_
  iterate 5 (refine zv_step (bX7_within 2) rfl rfl trivial ?_)
  refine zv_ifb (fun h15 => ?_) (fun h15 => ?_)
  · have q15 : ¬ j - i = 1 := fun e => h15 (by show nI j - nI i = nI 1; rw [nI_sub (a := j) (b := i) (by omega), e])
    iterate 1 (refine zv_step (bX7_within 2) rfl rfl trivial ?_)
    exact zv_lret (bX7_within 2) rfl rfl (Nat.zero_le _) (Nat.zero_le _) ⟨rfl, by rw [wi_0 hij, if_neg (fun q => q15 q.1)] <;> rfl⟩
  · have q15 : j - i = 1 := by
      have h9 : nI j - nI i = nI 1 := Decidable.not_not.mp h15
      rwa [nI_sub (a := j) (b := i) (by omega), nI_eq (by omega) (by decide)] at h9
    iterate 3 (refine zv_step (bX7_within 2) rfl rfl trivial ?_)
    refine zv_iale (bX7_within 2) rfl rfl (vp_in_nI (by omega) (by decide)) (show A 8 (nI i).toNatClampNeg = nI (eW A (i)) by rw [nI_clamp (by omega)]; exact (eW_of hw (by omega)).1) ?_
    iterate 2 (refine zv_step (bX7_within 2) rfl rfl trivial ?_)
    refine zv_ifb (fun h26 => ?_) (fun h26 => ?_)
    · have q26 : ¬ eW A (i) < 10 := fun e => absurd (nI_lt e (by decide)) (Int32.not_lt.mpr h26)
      iterate 1 (refine zv_step (bX7_within 2) rfl rfl trivial ?_)
      exact zv_lret (bX7_within 2) rfl rfl (Nat.zero_le _) (Nat.zero_le _) ⟨rfl, by rw [wi_0 hij, if_neg (fun q => q26 q.2.1)] <;> rfl⟩
    · have q26 : eW A (i) < 10 := by
        have h9 : nI (eW A (i)) < nI 10 := Int32.not_le.mp h26
        have := (eW_of hw (show i < h by omega)).2
        rwa [nI_ltI (by omega) (by decide)] at h9
      iterate 5 (refine zv_step (bX7_within 2) rfl rfl trivial ?_)
      refine zv_iale (bX7_within 2) rfl rfl (vp_in_nI (by omega) (by decide)) (show A 8 (nI i).toNatClampNeg = nI (eW A (i)) by rw [nI_clamp (by omega)]; exact (eW_of hw (by omega)).1) ?_
      refine zv_zale (bX7_within 2) rfl rfl (show vp_in (nI (eW A i)) 10 from vp_in_nI (by omega) (by decide)) (show A 6 (nI (eW A i)).toNatClampNeg = A 6 (eW A i) by rw [nI_clamp (by omega)]) ?_
      iterate 1 (refine zv_step (bX7_within 2) rfl rfl trivial ?_)
      refine zv_ifb (fun h40 => ?_) (fun h40 => ?_)
      · iterate 1 (refine zv_step (bX7_within 2) rfl rfl trivial ?_)
        exact zv_lret (bX7_within 2) rfl rfl (Nat.zero_le _) (Nat.zero_le _) ⟨rfl, by rw [wi_0 hij, if_neg (fun q => h40 q.2.2)] <;> rfl⟩
      · iterate 2 (refine zv_step (bX7_within 2) rfl rfl trivial ?_)
        exact zv_lret (bX7_within 2) rfl rfl (Nat.zero_le _) (Nat.zero_le _) ⟨rfl, by rw [wi_0 hij, if_pos ⟨q15, q26, Decidable.not_not.mp h40⟩] <;> rfl⟩
set_option maxHeartbeats 1000000 in
set_option maxRecDepth 20000 in
theorem mWi1 (f : Nat → zC) (o : Nat → Int32) (A : Nat → Nat → Int32) (J : Nat → Nat → Int64) {h : Nat} (hh : h ≤ 20) (hw : nnW h (A 8)) {i j : Nat} (hij : i < j) (hj : j ≤ h) {L : Nat → Nat → Nat} (hL : okL J L i j) : zK 2 zX7_within [.ref 76, .int (nI 1), .int (nI i), .int (nI j)] (wR f o A J) (fun r w' => w' = (wR f o A J) ∧ r = some (.long (lN (wi (eW A) (A 6) L 1 i j)))) := by
  refine zK_of qX7_within (by decide +kernel) rfl ?_
  iterate 3 (refine zv_step (bX7_within 2) rfl rfl trivial ?_)
  refine zv_ift (nI_lt (by omega) (by omega)) ?_
  iterate 2 (refine zv_step (bX7_within 2) rfl rfl trivial ?_)
  refine zv_ift (by decide) ?_
  iterate 3 (refine zv_step (bX7_within 2) rfl rfl trivial ?_)
  refine zv_iff (by decide) ?_
  iterate 3 (refine zv_step (bX7_within 2) rfl rfl trivial ?_)
  refine zv_V2 (bX7_within 2) rfl rfl rfl rfl rfl rfl rfl ⟨rfl, rfl, rfl⟩ ⟨by decide, by decide⟩ ⟨Nat.zero_le _, Nat.zero_le _⟩ (mIsNumber f o A J hh hw hij hj) ?_
  rintro _ _ ⟨rfl, ⟨g1, rfl⟩ | ⟨g1, rfl⟩⟩
  · skip
    iterate 1 (refine zv_step (bX7_within 2) rfl rfl trivial ?_)
    refine zv_iff (by decide) ?_
    iterate 2 (refine zv_step (bX7_within 2) rfl rfl trivial ?_)
    exact zv_lret (bX7_within 2) rfl rfl (Nat.zero_le _) (Nat.zero_le _) ⟨rfl, by rw [wi_1 hij, if_pos g1] <;> rfl⟩
  · skip
    iterate 1 (refine zv_step (bX7_within 2) rfl rfl trivial ?_)
    refine zv_ift (by decide) ?_
    iterate 1 (refine zv_step (bX7_within 2) rfl rfl trivial ?_)
    exact zv_lret (bX7_within 2) rfl rfl (Nat.zero_le _) (Nat.zero_le _) ⟨rfl, by rw [wi_1 hij, if_neg (by rw [g1]; decide)] <;> rfl⟩
set_option maxHeartbeats 1000000 in
set_option maxRecDepth 20000 in
theorem withL (f : Nat → zC) (o : Nat → Int32) (A : Nat → Nat → Int32) (J : Nat → Nat → Int64) {h : Nat} (hh : h ≤ 20) (hw : nnW h (A 8)) {i j : Nat} (hij : i < j) (hj : j ≤ h) {L : Nat → Nat → Nat} (hL : okL J L i j) {k : Nat} (k2 : 2 ≤ k) (k6 : k ≤ 6) {n0 : Nat} : ∀ (c m n : Nat), j - 1 - m = c → i + 1 ≤ m → m ≤ 21 → n ≤ cap → ∀ {x6 : Int32}, x6 = nI m → zV (zMo 2 zX7_within) false n0 0 0 84 [(6, .int x6), (4, .long (lN n)), (0, .ref 76), (1, .int (nI k)), (2, .int (nI i)), (3, .int (nI j))] [] (wR f o A J) (fun r w' => w' = (wR f o A J) ∧ r = some (.long (lN (wiP (eW A) L k i j c m n)))) := by
  intro c
  induction c with
  | zero =>
    intro m n hc hm hm2 hn x6 e6
    subst e6
    iterate 5 (refine zv_step (bX7_within 2) rfl rfl trivial ?_)
    refine zv_ift (show nI j - Int32.ofInt 1 ≤ nI m by rw [sub_1 (by omega)]; exact nI_le (by omega) (by omega)) ?_
    iterate 1 (refine zv_step (bX7_within 2) rfl rfl trivial ?_)
    exact zv_lret (bX7_within 2) rfl rfl (Nat.zero_le _) (Nat.zero_le _) ⟨rfl, rfl⟩
  | succ c ih =>
    intro m n hc hm hm2 hn x6 e6
    subst e6
    iterate 5 (refine zv_step (bX7_within 2) rfl rfl trivial ?_)
    refine zv_iff (show ¬ nI j - Int32.ofInt 1 ≤ nI m by rw [sub_1 (by omega)]; exact fun h => absurd ((nI_leI (by omega) (by omega)).mp h) (by omega)) ?_
    iterate 3 (refine zv_step (bX7_within 2) rfl rfl trivial ?_)
    refine zv_iale (bX7_within 2) rfl rfl (vp_in_nI (by omega) (by decide)) (show A 8 (nI m).toNatClampNeg = nI (eW A (m)) by rw [nI_clamp (by omega)]; exact (eW_of hw (by omega)).1) ?_
    iterate 4 (refine zv_step (bX7_within 2) rfl rfl trivial ?_)
    refine zv_ifb (fun h103 => ?_) (fun h103 => ?_)
    · have q103 : ¬ eW A m = 18 + k := fun e => h103 (by show nI (eW A m) = nI 18 + nI k; rw [nI_add, e])
      iterate 4 (refine zv_step (bX7_within 2) rfl rfl trivial ?_)
      have e9 : wiP (eW A) L k i j (c + 1) m n = wiP (eW A) L k i j c (m + 1) (n) := by
        show wiP _ _ _ _ _ c (m + 1) _ = _
        rw [if_neg q103]
      rw [e9]
      refine zv_locals (l := [(6, .int (nI m + Int32.ofInt 1)), (4, .long (lN (n))), (0, .ref 76), (1, .int (nI k)), (2, .int (nI i)), (3, .int (nI j))]) (l' := [(6, .int (nI m + Int32.ofInt 1)), (4, .long (lN (n))), (0, .ref 76), (1, .int (nI k)), (2, .int (nI i)), (3, .int (nI j))]) (fun q h => h) (ih (m + 1) (n) (by omega) (by omega) (by omega) hn (nI_1 m))
    · have q103 : eW A m = 18 + k := by
        have h9 : nI (eW A m) = nI 18 + nI k := Decidable.not_not.mp h103
        have := (eW_of hw (show m < h by omega)).2
        rwa [nI_add, nI_eq (by omega) (by omega)] at h9
      iterate 8 (refine zv_step (bX7_within 2) rfl rfl trivial ?_)
      refine zv_lale (bX7_within 2) rfl rfl (show vp_in (c8 21 * nI i + nI m) 441 by rw [ix21]; exact vp_in_nI (by omega) (by decide)) (show J 1 (c8 21 * nI i + nI m).toNatClampNeg = lN (L (i) (m)) by rw [ix21, nI_clamp (by omega)]; exact (hL (i) (m) (by omega) (by omega) (by omega) (by omega)).1) ?_
      iterate 9 (refine zv_step (bX7_within 2) rfl rfl trivial ?_)
      refine zv_lale (bX7_within 2) rfl rfl (show vp_in (c8 21 * (nI m + Int32.ofInt 1) + nI j) 441 by rw [show nI m + Int32.ofInt 1 = nI (m + 1) from nI_1 m, ix21]; exact vp_in_nI (by omega) (by decide)) (show J 1 (c8 21 * (nI m + Int32.ofInt 1) + nI j).toNatClampNeg = lN (L (m + 1) (j)) by rw [show nI m + Int32.ofInt 1 = nI (m + 1) from nI_1 m, ix21, nI_clamp (by omega)]; exact (hL (m + 1) (j) (by omega) (by omega) (by omega) (by omega)).1) ?_
      refine zv_S2 (bX7_within 2) rfl rfl rfl rfl ⟨rfl, rfl, rfl⟩ ⟨by decide, by decide⟩ ⟨Nat.zero_le _, Nat.zero_le _⟩ (mMul _ (hL i m (by omega) (by omega) (by omega) (by omega)).2 (hL (m + 1) j (by omega) (by omega) (by omega) (by omega)).2) ?_
      rintro _ _ ⟨rfl, rfl⟩
      refine zv_S2 (bX7_within 2) rfl rfl rfl rfl ⟨rfl, rfl, rfl⟩ ⟨by decide, by decide⟩ ⟨Nat.zero_le _, Nat.zero_le _⟩ (mPlus _ hn (tmW_le _ _).1) ?_
      rintro _ _ ⟨rfl, rfl⟩
      iterate 4 (refine zv_step (bX7_within 2) rfl rfl trivial ?_)
      have e9 : wiP (eW A) L k i j (c + 1) m n = wiP (eW A) L k i j c (m + 1) (plW n (tmW (L i m) (L (m + 1) j))) := by
        show wiP _ _ _ _ _ c (m + 1) _ = _
        rw [if_pos q103]
      rw [e9]
      refine zv_locals (l := [(6, .int (nI m + Int32.ofInt 1)), (4, .long (lN (plW n (tmW (L i m) (L (m + 1) j))))), (0, .ref 76), (1, .int (nI k)), (2, .int (nI i)), (3, .int (nI j))]) (l' := [(6, .int (nI m + Int32.ofInt 1)), (4, .long (lN (plW n (tmW (L i m) (L (m + 1) j))))), (0, .ref 76), (1, .int (nI k)), (2, .int (nI i)), (3, .int (nI j))]) (fun q h => h) (ih (m + 1) (plW n (tmW (L i m) (L (m + 1) j))) (by omega) (by omega) (by omega) (plW_le _ _).1 (nI_1 m))
set_option maxHeartbeats 1000000 in
set_option maxRecDepth 20000 in
theorem mWi2 (f : Nat → zC) (o : Nat → Int32) (A : Nat → Nat → Int32) (J : Nat → Nat → Int64) {h : Nat} (hh : h ≤ 20) (hw : nnW h (A 8)) {i j : Nat} (hij : i < j) (hj : j ≤ h) {L : Nat → Nat → Nat} (hL : okL J L i j) {k : Nat} (k2 : 2 ≤ k) (k6 : k ≤ 6) : zK 2 zX7_within [.ref 76, .int (nI k), .int (nI i), .int (nI j)] (wR f o A J) (fun r w' => w' = (wR f o A J) ∧ r = some (.long (lN (wi (eW A) (A 6) L k i j)))) := by
  refine zK_of qX7_within (by decide +kernel) rfl ?_
  iterate 3 (refine zv_step (bX7_within 2) rfl rfl trivial ?_)
  refine zv_ift (nI_lt (by omega) (by omega)) ?_
  iterate 2 (refine zv_step (bX7_within 2) rfl rfl trivial ?_)
  refine zv_ift (nI_ne0 (by omega) (by omega)) ?_
  iterate 3 (refine zv_step (bX7_within 2) rfl rfl trivial ?_)
  refine zv_ift (fun e => absurd ((nI_eq (b := 1) (by omega) (by decide)).mp e) (by omega)) ?_
  iterate 1 (refine zv_step (bX7_within 2) rfl rfl trivial ?_)
  refine zv_S1 (bX7_within 2) rfl rfl rfl rfl ⟨rfl, rfl, rfl⟩ ⟨by decide, by decide⟩ ⟨Nat.zero_le _, Nat.zero_le _⟩ (mTwoY _ k2 k6) ?_
  rintro _ _ ⟨rfl, rfl⟩
  iterate 1 (refine zv_step (bX7_within 2) rfl rfl trivial ?_)
  refine zv_iff (by decide) ?_
  iterate 6 (refine zv_step (bX7_within 2) rfl rfl trivial ?_)
  rw [wi_2 hij k2 k6]
  refine zv_locals (l := [(6, .int (nI i + Int32.ofInt 1)), (4, .long (lN 0)), (0, .ref 76), (1, .int (nI k)), (2, .int (nI i)), (3, .int (nI j))]) (l' := [(6, .int (nI i + Int32.ofInt 1)), (4, .long (lN 0)), (0, .ref 76), (1, .int (nI k)), (2, .int (nI i)), (3, .int (nI j))]) (fun q h => h) (withL f o A J hh hw hij hj hL k2 k6 (j - 1 - (i + 1)) (i + 1) 0 rfl (Nat.le_refl _) (by omega) (Nat.zero_le _) (nI_1 i))
set_option maxHeartbeats 1000000 in
set_option maxRecDepth 20000 in
theorem mWi7 (f : Nat → zC) (o : Nat → Int32) (A : Nat → Nat → Int32) (J : Nat → Nat → Int64) {h : Nat} (hh : h ≤ 20) (hw : nnW h (A 8)) {i j : Nat} (hij : i < j) (hj : j ≤ h) {L : Nat → Nat → Nat} (hL : okL J L i j) : zK 2 zX7_within [.ref 76, .int (nI 7), .int (nI i), .int (nI j)] (wR f o A J) (fun r w' => w' = (wR f o A J) ∧ r = some (.long (lN (wi (eW A) (A 6) L 7 i j)))) := by
  refine zK_of qX7_within (by decide +kernel) rfl ?_
  iterate 3 (refine zv_step (bX7_within 2) rfl rfl trivial ?_)
  refine zv_ift (nI_lt (by omega) (by omega)) ?_
  iterate 2 (refine zv_step (bX7_within 2) rfl rfl trivial ?_)
  refine zv_ift (by decide) ?_
  iterate 3 (refine zv_step (bX7_within 2) rfl rfl trivial ?_)
  refine zv_ift (by decide) ?_
  iterate 1 (refine zv_step (bX7_within 2) rfl rfl trivial ?_)
  refine zv_S1 (bX7_within 2) rfl rfl rfl rfl ⟨rfl, rfl, rfl⟩ ⟨by decide, by decide⟩ ⟨Nat.zero_le _, Nat.zero_le _⟩ (mTwoN _ (k := 7) (by decide) (by decide)) ?_
  rintro _ _ ⟨rfl, rfl⟩
  iterate 1 (refine zv_step (bX7_within 2) rfl rfl trivial ?_)
  refine zv_ift (by decide) ?_
  iterate 3 (refine zv_step (bX7_within 2) rfl rfl trivial ?_)
  refine zv_iff (by decide) ?_
  iterate 3 (refine zv_step (bX7_within 2) rfl rfl trivial ?_)
  refine zv_iale (bX7_within 2) rfl rfl (vp_in_nI (by omega) (by decide)) (show A 8 (nI i).toNatClampNeg = nI (eW A (i)) by rw [nI_clamp (by omega)]; exact (eW_of hw (by omega)).1) ?_
  iterate 2 (refine zv_step (bX7_within 2) rfl rfl trivial ?_)
  refine zv_ifb (fun h170 => ?_) (fun h170 => ?_)
  · have q170 : ¬ eW A (i) = 25 := fun e => h170 (by rw [e]; rfl)
    iterate 1 (refine zv_step (bX7_within 2) rfl rfl trivial ?_)
    exact zv_lret (bX7_within 2) rfl rfl (Nat.zero_le _) (Nat.zero_le _) ⟨rfl, by rw [wi_7 hij, if_neg (fun q => q170 q.1)] <;> rfl⟩
  · have q170 : eW A (i) = 25 := (nI_eq (by have := (eW_of hw (show i < h by omega)).2; omega) (by decide)).mp (Decidable.not_not.mp h170)
    iterate 5 (refine zv_step (bX7_within 2) rfl rfl trivial ?_)
    refine zv_ifb (fun h177 => ?_) (fun h177 => ?_)
    · have q177 : ¬ 1 < j - i := by
        have h9 : nI j - nI i ≤ nI 1 := h177
        rw [nI_sub (a := j) (b := i) (by omega), nI_leI (by omega) (by decide)] at h9
        omega
      iterate 1 (refine zv_step (bX7_within 2) rfl rfl trivial ?_)
      exact zv_lret (bX7_within 2) rfl rfl (Nat.zero_le _) (Nat.zero_le _) ⟨rfl, by rw [wi_7 hij, if_neg (fun q => q177 q.2)] <;> rfl⟩
    · have q177 : 1 < j - i := by
        have h9 : ¬ nI j - nI i ≤ nI 1 := h177
        rw [nI_sub (a := j) (b := i) (by omega), nI_leI (by omega) (by decide)] at h9
        omega
      iterate 9 (refine zv_step (bX7_within 2) rfl rfl trivial ?_)
      refine zv_lale (bX7_within 2) rfl rfl (show vp_in (c8 21 * (nI i + Int32.ofInt 1) + nI j) 441 by rw [show nI i + Int32.ofInt 1 = nI (i + 1) from nI_1 i, ix21]; exact vp_in_nI (by omega) (by decide)) (show J 1 (c8 21 * (nI i + Int32.ofInt 1) + nI j).toNatClampNeg = lN (L (i + 1) (j)) by rw [show nI i + Int32.ofInt 1 = nI (i + 1) from nI_1 i, ix21, nI_clamp (by omega)]; exact (hL (i + 1) (j) (by omega) (by omega) (by omega) (by omega)).1) ?_
      iterate 1 (refine zv_step (bX7_within 2) rfl rfl trivial ?_)
      exact zv_lret (bX7_within 2) rfl rfl (Nat.zero_le _) (Nat.zero_le _) ⟨rfl, by rw [wi_7 hij, if_pos ⟨q170, q177⟩] <;> rfl⟩
set_option maxHeartbeats 1000000 in
set_option maxRecDepth 20000 in
theorem mWi8 (f : Nat → zC) (o : Nat → Int32) (A : Nat → Nat → Int32) (J : Nat → Nat → Int64) {h : Nat} (hh : h ≤ 20) (hw : nnW h (A 8)) {i j : Nat} (hij : i < j) (hj : j ≤ h) {L : Nat → Nat → Nat} (hL : okL J L i j) : zK 2 zX7_within [.ref 76, .int (nI 8), .int (nI i), .int (nI j)] (wR f o A J) (fun r w' => w' = (wR f o A J) ∧ r = some (.long (lN (wi (eW A) (A 6) L 8 i j)))) := by
  refine zK_of qX7_within (by decide +kernel) rfl ?_
  iterate 3 (refine zv_step (bX7_within 2) rfl rfl trivial ?_)
  refine zv_ift (nI_lt (by omega) (by omega)) ?_
  iterate 2 (refine zv_step (bX7_within 2) rfl rfl trivial ?_)
  refine zv_ift (by decide) ?_
  iterate 3 (refine zv_step (bX7_within 2) rfl rfl trivial ?_)
  refine zv_ift (by decide) ?_
  iterate 1 (refine zv_step (bX7_within 2) rfl rfl trivial ?_)
  refine zv_S1 (bX7_within 2) rfl rfl rfl rfl ⟨rfl, rfl, rfl⟩ ⟨by decide, by decide⟩ ⟨Nat.zero_le _, Nat.zero_le _⟩ (mTwoN _ (k := 8) (by decide) (by decide)) ?_
  rintro _ _ ⟨rfl, rfl⟩
  iterate 1 (refine zv_step (bX7_within 2) rfl rfl trivial ?_)
  refine zv_ift (by decide) ?_
  iterate 3 (refine zv_step (bX7_within 2) rfl rfl trivial ?_)
  refine zv_ift (by decide) ?_
  iterate 3 (refine zv_step (bX7_within 2) rfl rfl trivial ?_)
  refine zv_iff (by decide) ?_
  iterate 3 (refine zv_step (bX7_within 2) rfl rfl trivial ?_)
  refine zv_iale (bX7_within 2) rfl rfl (vp_in_nI (by omega) (by decide)) (show A 8 (nI i).toNatClampNeg = nI (eW A (i)) by rw [nI_clamp (by omega)]; exact (eW_of hw (by omega)).1) ?_
  iterate 2 (refine zv_step (bX7_within 2) rfl rfl trivial ?_)
  refine zv_ifb (fun h212 => ?_) (fun h212 => ?_)
  · have q212 : ¬ eW A (i) = 26 := fun e => h212 (by rw [e]; rfl)
    iterate 1 (refine zv_step (bX7_within 2) rfl rfl trivial ?_)
    exact zv_lret (bX7_within 2) rfl rfl (Nat.zero_le _) (Nat.zero_le _) ⟨rfl, by rw [wi_8 hij, if_neg (fun q => q212 q.1)] <;> rfl⟩
  · have q212 : eW A (i) = 26 := (nI_eq (by have := (eW_of hw (show i < h by omega)).2; omega) (by decide)).mp (Decidable.not_not.mp h212)
    iterate 5 (refine zv_step (bX7_within 2) rfl rfl trivial ?_)
    refine zv_iale (bX7_within 2) rfl rfl (show vp_in (nI j - Int32.ofInt 1) 20 by rw [show nI j - Int32.ofInt 1 = nI (j - 1) from sub_1 (by omega)]; exact vp_in_nI (by omega) (by decide)) (show A 8 (nI j - Int32.ofInt 1).toNatClampNeg = nI (eW A (j - 1)) by rw [show nI j - Int32.ofInt 1 = nI (j - 1) from sub_1 (by omega), nI_clamp (by omega)]; exact (eW_of hw (by omega)).1) ?_
    iterate 2 (refine zv_step (bX7_within 2) rfl rfl trivial ?_)
    refine zv_ifb (fun h225 => ?_) (fun h225 => ?_)
    · have q225 : ¬ eW A (j - 1) = 27 := fun e => h225 (by rw [e]; rfl)
      iterate 1 (refine zv_step (bX7_within 2) rfl rfl trivial ?_)
      exact zv_lret (bX7_within 2) rfl rfl (Nat.zero_le _) (Nat.zero_le _) ⟨rfl, by rw [wi_8 hij, if_neg (fun q => q225 q.2.1)] <;> rfl⟩
    · have q225 : eW A (j - 1) = 27 := (nI_eq (by have := (eW_of hw (show j - 1 < h by omega)).2; omega) (by decide)).mp (Decidable.not_not.mp h225)
      iterate 5 (refine zv_step (bX7_within 2) rfl rfl trivial ?_)
      refine zv_ifb (fun h232 => ?_) (fun h232 => ?_)
      · have q232 : ¬ 2 < j - i := by
          have h9 : nI j - nI i ≤ nI 2 := h232
          rw [nI_sub (a := j) (b := i) (by omega), nI_leI (by omega) (by decide)] at h9
          omega
        iterate 1 (refine zv_step (bX7_within 2) rfl rfl trivial ?_)
        exact zv_lret (bX7_within 2) rfl rfl (Nat.zero_le _) (Nat.zero_le _) ⟨rfl, by rw [wi_8 hij, if_neg (fun q => q232 q.2.2)] <;> rfl⟩
      · have q232 : 2 < j - i := by
          have h9 : ¬ nI j - nI i ≤ nI 2 := h232
          rw [nI_sub (a := j) (b := i) (by omega), nI_leI (by omega) (by decide)] at h9
          omega
        iterate 11 (refine zv_step (bX7_within 2) rfl rfl trivial ?_)
        refine zv_lale (bX7_within 2) rfl rfl (show vp_in (c8 21 * (nI i + Int32.ofInt 1) + nI j - Int32.ofInt 1) 441 by rw [show c8 21 * (nI i + Int32.ofInt 1) + nI j - Int32.ofInt 1 = nI (21 * (i + 1) + (j - 1)) by rw [show nI i + Int32.ofInt 1 = nI (i + 1) from nI_1 i, ix21, sub_1 (by omega)]; congr 1; omega]; exact vp_in_nI (by omega) (by decide)) (show J 1 (c8 21 * (nI i + Int32.ofInt 1) + nI j - Int32.ofInt 1).toNatClampNeg = lN (L (i + 1) (j - 1)) by rw [show c8 21 * (nI i + Int32.ofInt 1) + nI j - Int32.ofInt 1 = nI (21 * (i + 1) + (j - 1)) by rw [show nI i + Int32.ofInt 1 = nI (i + 1) from nI_1 i, ix21, sub_1 (by omega)]; congr 1; omega, nI_clamp (by omega)]; exact (hL (i + 1) (j - 1) (by omega) (by omega) (by omega) (by omega)).1) ?_
        iterate 1 (refine zv_step (bX7_within 2) rfl rfl trivial ?_)
        exact zv_lret (bX7_within 2) rfl rfl (Nat.zero_le _) (Nat.zero_le _) ⟨rfl, by rw [wi_8 hij, if_pos ⟨q212, q225, q232⟩] <;> rfl⟩
set_option maxHeartbeats 1000000 in
set_option maxRecDepth 20000 in
theorem mWi9 (f : Nat → zC) (o : Nat → Int32) (A : Nat → Nat → Int32) (J : Nat → Nat → Int64) {h : Nat} (hh : h ≤ 20) (hw : nnW h (A 8)) {i j : Nat} (hij : i < j) (hj : j ≤ h) {L : Nat → Nat → Nat} (hL : okL J L i j) : zK 2 zX7_within [.ref 76, .int (nI 9), .int (nI i), .int (nI j)] (wR f o A J) (fun r w' => w' = (wR f o A J) ∧ r = some (.long (lN (wi (eW A) (A 6) L 9 i j)))) := by
  refine zK_of qX7_within (by decide +kernel) rfl ?_
  iterate 3 (refine zv_step (bX7_within 2) rfl rfl trivial ?_)
  refine zv_ift (nI_lt (by omega) (by omega)) ?_
  iterate 2 (refine zv_step (bX7_within 2) rfl rfl trivial ?_)
  refine zv_ift (by decide) ?_
  iterate 3 (refine zv_step (bX7_within 2) rfl rfl trivial ?_)
  refine zv_ift (by decide) ?_
  iterate 1 (refine zv_step (bX7_within 2) rfl rfl trivial ?_)
  refine zv_S1 (bX7_within 2) rfl rfl rfl rfl ⟨rfl, rfl, rfl⟩ ⟨by decide, by decide⟩ ⟨Nat.zero_le _, Nat.zero_le _⟩ (mTwoN _ (k := 9) (by decide) (by decide)) ?_
  rintro _ _ ⟨rfl, rfl⟩
  iterate 1 (refine zv_step (bX7_within 2) rfl rfl trivial ?_)
  refine zv_ift (by decide) ?_
  iterate 3 (refine zv_step (bX7_within 2) rfl rfl trivial ?_)
  refine zv_ift (by decide) ?_
  iterate 3 (refine zv_step (bX7_within 2) rfl rfl trivial ?_)
  refine zv_ift (by decide) ?_
  iterate 3 (refine zv_step (bX7_within 2) rfl rfl trivial ?_)
  refine zv_iale (bX7_within 2) rfl rfl (vp_in_nI (by omega) (by decide)) (show A 8 (nI i).toNatClampNeg = nI (eW A (i)) by rw [nI_clamp (by omega)]; exact (eW_of hw (by omega)).1) ?_
  iterate 2 (refine zv_step (bX7_within 2) rfl rfl trivial ?_)
  refine zv_ifb (fun h263 => ?_) (fun h263 => ?_)
  · have q263 : ¬ eW A (i) < 10 := fun e => absurd (nI_lt e (by decide)) (Int32.not_lt.mpr h263)
    iterate 1 (refine zv_step (bX7_within 2) rfl rfl trivial ?_)
    exact zv_lret (bX7_within 2) rfl rfl (Nat.zero_le _) (Nat.zero_le _) ⟨rfl, by rw [wi_9 hij, if_neg (fun q => q263 q.1)] <;> rfl⟩
  · have q263 : eW A (i) < 10 := by
      have h9 : nI (eW A (i)) < nI 10 := Int32.not_le.mp h263
      have := (eW_of hw (show i < h by omega)).2
      rwa [nI_ltI (by omega) (by decide)] at h9
    iterate 5 (refine zv_step (bX7_within 2) rfl rfl trivial ?_)
    refine zv_iale (bX7_within 2) rfl rfl (vp_in_nI (by omega) (by decide)) (show A 8 (nI i).toNatClampNeg = nI (eW A (i)) by rw [nI_clamp (by omega)]; exact (eW_of hw (by omega)).1) ?_
    refine zv_zale (bX7_within 2) rfl rfl (show vp_in (nI (eW A i)) 10 from vp_in_nI (by omega) (by decide)) (show A 6 (nI (eW A i)).toNatClampNeg = A 6 (eW A i) by rw [nI_clamp (by omega)]) ?_
    iterate 1 (refine zv_step (bX7_within 2) rfl rfl trivial ?_)
    refine zv_ifb (fun h277 => ?_) (fun h277 => ?_)
    · iterate 1 (refine zv_step (bX7_within 2) rfl rfl trivial ?_)
      exact zv_lret (bX7_within 2) rfl rfl (Nat.zero_le _) (Nat.zero_le _) ⟨rfl, by rw [wi_9 hij, if_neg (fun q => q.2.1 h277)] <;> rfl⟩
    · iterate 5 (refine zv_step (bX7_within 2) rfl rfl trivial ?_)
      refine zv_ifb (fun h284 => ?_) (fun h284 => ?_)
      · have q284 : ¬ 2 < j - i := by
          have h9 : nI j - nI i ≤ nI 2 := h284
          rw [nI_sub (a := j) (b := i) (by omega), nI_leI (by omega) (by decide)] at h9
          omega
        iterate 1 (refine zv_step (bX7_within 2) rfl rfl trivial ?_)
        exact zv_lret (bX7_within 2) rfl rfl (Nat.zero_le _) (Nat.zero_le _) ⟨rfl, by rw [wi_9 hij, if_neg (fun q => q284 q.2.2.1)] <;> rfl⟩
      · have q284 : 2 < j - i := by
          have h9 : ¬ nI j - nI i ≤ nI 2 := h284
          rw [nI_sub (a := j) (b := i) (by omega), nI_leI (by omega) (by decide)] at h9
          omega
        iterate 5 (refine zv_step (bX7_within 2) rfl rfl trivial ?_)
        refine zv_iale (bX7_within 2) rfl rfl (show vp_in (nI i + Int32.ofInt 1) 20 by rw [show nI i + Int32.ofInt 1 = nI (i + 1) from nI_1 i]; exact vp_in_nI (by omega) (by decide)) (show A 8 (nI i + Int32.ofInt 1).toNatClampNeg = nI (eW A (i + 1)) by rw [show nI i + Int32.ofInt 1 = nI (i + 1) from nI_1 i, nI_clamp (by omega)]; exact (eW_of hw (by omega)).1) ?_
        iterate 2 (refine zv_step (bX7_within 2) rfl rfl trivial ?_)
        refine zv_ifb (fun h297 => ?_) (fun h297 => ?_)
        · have q297 : ¬ eW A (i + 1) = 28 := fun e => h297 (by rw [e]; rfl)
          iterate 1 (refine zv_step (bX7_within 2) rfl rfl trivial ?_)
          exact zv_lret (bX7_within 2) rfl rfl (Nat.zero_le _) (Nat.zero_le _) ⟨rfl, by rw [wi_9 hij, if_neg (fun q => q297 q.2.2.2)] <;> rfl⟩
        · have q297 : eW A (i + 1) = 28 := (nI_eq (by have := (eW_of hw (show i + 1 < h by omega)).2; omega) (by decide)).mp (Decidable.not_not.mp h297)
          iterate 9 (refine zv_step (bX7_within 2) rfl rfl trivial ?_)
          refine zv_lale (bX7_within 2) rfl rfl (show vp_in (c8 21 * (nI i + Int32.ofInt 2) + nI j) 441 by rw [show nI i + Int32.ofInt 2 = nI (i + 2) from nI_2 i, ix21]; exact vp_in_nI (by omega) (by decide)) (show J 1 (c8 21 * (nI i + Int32.ofInt 2) + nI j).toNatClampNeg = lN (L (i + 2) (j)) by rw [show nI i + Int32.ofInt 2 = nI (i + 2) from nI_2 i, ix21, nI_clamp (by omega)]; exact (hL (i + 2) (j) (by omega) (by omega) (by omega) (by omega)).1) ?_
          iterate 1 (refine zv_step (bX7_within 2) rfl rfl trivial ?_)
          exact zv_lret (bX7_within 2) rfl rfl (Nat.zero_le _) (Nat.zero_le _) ⟨rfl, by rw [wi_9 hij, if_pos ⟨q263, h277, q284, q297⟩] <;> rfl⟩
set_option maxHeartbeats 1000000 in
set_option maxRecDepth 20000 in
theorem mWiN (f : Nat → zC) (o : Nat → Int32) (A : Nat → Nat → Int32) (J : Nat → Nat → Int64) {k i j : Nat} (hij : j ≤ i) (hi : i ≤ 30) {G : Nat → Int32} {E : Nat → Nat} {L : Nat → Nat → Nat} : zK 2 zX7_within [.ref 76, .int (nI k), .int (nI i), .int (nI j)] (wR f o A J) (fun r w' => w' = (wR f o A J) ∧ r = some (.long (lN (wi E G L k i j)))) := by
  refine zK_of qX7_within (by decide +kernel) rfl ?_
  iterate 3 (refine zv_step (bX7_within 2) rfl rfl trivial ?_)
  refine zv_iff (nI_nlt (by omega) (by omega)) ?_
  iterate 1 (refine zv_step (bX7_within 2) rfl rfl trivial ?_)
  exact zv_lret (bX7_within 2) rfl rfl (Nat.zero_le _) (Nat.zero_le _) ⟨rfl, by rw [wi_n hij]; rfl⟩
theorem mWithin (f : Nat → zC) (o : Nat → Int32) (A : Nat → Nat → Int32) (J : Nat → Nat → Int64) {h : Nat} (hh : h ≤ 20) (hw : nnW h (A 8)) {i j : Nat} (hi : i ≤ 30) (hj : j ≤ h) {L : Nat → Nat → Nat} (hL : okL J L i j) {k : Nat} (hk : k < 10) {x y z : Int32} (ex : x = nI k) (ey : y = nI i) (ez : z = nI j) : zK 2 zX7_within [.ref 76, .int x, .int y, .int z] (wR f o A J) (fun r w' => w' = (wR f o A J) ∧ r = some (.long (lN (wi (eW A) (A 6) L k i j)))) := by
  subst ex ey ez
  rcases Nat.lt_or_ge i j with hij | hij
  · rcases (show k = 0 ∨ k = 1 ∨ (2 ≤ k ∧ k ≤ 6) ∨ k = 7 ∨ k = 8 ∨ k = 9 by omega) with rfl | rfl | ⟨k2, k6⟩ | rfl | rfl | rfl
    · exact mWi0 f o A J hh hw hij hj hL
    · exact mWi1 f o A J hh hw hij hj hL
    · exact mWi2 f o A J hh hw hij hj hL k2 k6
    · exact mWi7 f o A J hh hw hij hj hL
    · exact mWi8 f o A J hh hw hij hj hL
    · exact mWi9 f o A J hh hw hij hj hL
  · exact mWiN f o A J hij hi
end
section
/-- READINGS of a span by way c: KIND c / 2, between begin and end if c is odd -/
def mW (A : Nat → Nat → Int32) (s : Nat) (L : Nat → Nat → Nat) (i j c : Nat) : Nat := if ltW A s (c / 2) (c % 2) = true ∧ (c % 2 = 0 ∨ (eW A i = 29 ∧ eW A (j - 1) = 30)) then wi (eW A) (A 6) L (c / 2) (i + c % 2) (j - c % 2) else 0
def csW (g : Nat → Nat) : Nat → Nat
  | 0 => 0
  | c + 1 => plW (csW g c) (g c)
theorem csW_le (g : Nat → Nat) : ∀ c, csW g c ≤ cap
  | 0 => Nat.zero_le _
  | c + 1 => (plW_le _ _).1
theorem mW_e {A : Nat → Nat → Int32} {s : Nat} {L : Nat → Nat → Nat} {i j c : Nat} (h : c % 2 = 0) (g : ltW A s (c / 2) 0 = true) : mW A s L i j c = wi (eW A) (A 6) L (c / 2) i j := by
  unfold mW
  rw [h, if_pos ⟨g, Or.inl rfl⟩]
  rfl
theorem mW_o {A : Nat → Nat → Int32} {s : Nat} {L : Nat → Nat → Nat} {i j c : Nat} (h : c % 2 = 1) (g : ltW A s (c / 2) 1 = true) (e1 : eW A i = 29) (e2 : eW A (j - 1) = 30) : mW A s L i j c = wi (eW A) (A 6) L (c / 2) (i + 1) (j - 1) := by
  unfold mW
  rw [h, if_pos ⟨g, Or.inr ⟨e1, e2⟩⟩]
theorem mW_f {A : Nat → Nat → Int32} {s : Nat} {L : Nat → Nat → Nat} {i j c b : Nat} (h : c % 2 = b) (g : ltW A s (c / 2) b = false) : mW A s L i j c = 0 := by
  unfold mW
  rw [h, if_neg (fun q => by rw [g] at q; exact absurd q.1 (by decide))]
theorem mW_x {A : Nat → Nat → Int32} {s : Nat} {L : Nat → Nat → Nat} {i j c : Nat} (h : c % 2 = 1) (e : ¬ (eW A i = 29 ∧ eW A (j - 1) = 30)) : mW A s L i j c = 0 := by
  unfold mW
  rw [h, if_neg (fun q => q.2.elim (by decide) e)]
theorem wiP_cg {E : Nat → Nat} {L L' : Nat → Nat → Nat} {k i j : Nat} (e : ∀ a b, i ≤ a → a < b → b ≤ j → b - a < j - i → L a b = L' a b) : ∀ (c m n : Nat), m + c + 1 ≤ j → i < m → wiP E L k i j c m n = wiP E L' k i j c m n
  | 0, _, _, _, _ => rfl
  | c + 1, m, n, h1, h2 => by
    show wiP E L k i j c (m + 1) _ = wiP E L' k i j c (m + 1) _
    rw [e i m (by omega) (by omega) (by omega) (by omega), e (m + 1) j (by omega) (by omega) (by omega) (by omega)]
    exact wiP_cg e c (m + 1) _ (by omega) (by omega)
theorem wi_cg {E : Nat → Nat} {G : Nat → Int32} {L L' : Nat → Nat → Nat} {k i j : Nat} (e : ∀ a b, i ≤ a → a < b → b ≤ j → b - a < j - i → L a b = L' a b) : wi E G L k i j = wi E G L' k i j := by
  unfold wi
  split
  · rfl
  · split
    · rfl
    · split
      · rfl
      · split
        · rename_i h _ _ _
          by_cases q : j = i + 1
          · rw [show j - 1 - (i + 1) = 0 by omega]
            rfl
          · exact wiP_cg e _ _ _ (by omega) (by omega)
        · split
          · split
            · rename_i q
              exact e _ _ (by omega) (by omega) (by omega) (by omega)
            · rfl
          · split
            · split
              · rename_i q
                exact e _ _ (by omega) (by omega) (by omega) (by omega)
              · rfl
            · split
              · rename_i q
                exact e _ _ (by omega) (by omega) (by omega) (by omega)
              · rfl
theorem mW_cg {A : Nat → Nat → Int32} {s : Nat} {L L' : Nat → Nat → Nat} {i j c : Nat} (e : ∀ a b, i ≤ a → a < b → b ≤ j → b - a < j - i → L a b = L' a b) : mW A s L i j c = mW A s L' i j c := by
  unfold mW
  rw [wi_cg (L := L) (L' := L') (fun a b h1 h2 h3 h4 => e a b (by omega) h2 (by omega) (by omega))]
theorem csW_cg {g g' : Nat → Nat} : ∀ c, (∀ d, d < c → g d = g' d) → csW g c = csW g' c
  | 0, _ => rfl
  | c + 1, h => by
    show plW (csW g c) (g c) = plW (csW g' c) (g' c)
    rw [csW_cg c (fun d hd => h d (by omega)), h c (by omega)]
/-- the table of sums as it stands -/
def lW (J : Nat → Nat → Int64) (a b : Nat) : Nat := (J 1 (21 * a + b)).toInt.toNat
/-- a span's numbers stand in the tables -/
def okS (A : Nat → Nat → Int32) (s : Nat) (J : Nat → Nat → Int64) (i j : Nat) : Prop := (∀ c, c < 20 → J 0 (20 * (21 * i + j) + c) = lN (mW A s (lW J) i j c)) ∧ J 1 (21 * i + j) = lN (csW (mW A s (lW J) i j) 20)
theorem okS_l {A : Nat → Nat → Int32} {s : Nat} {J : Nat → Nat → Int64} {i j : Nat} (h : okS A s J i j) : lW J i j = csW (mW A s (lW J) i j) 20 ∧ lW J i j ≤ cap ∧ J 1 (21 * i + j) = lN (lW J i j) := by
  have hc := csW_le (mW A s (lW J) i j) 20
  have e : lW J i j = csW (mW A s (lW J) i j) 20 := by
    show (J 1 (21 * i + j)).toInt.toNat = _
    rw [h.2]
    exact lN_cl (by unfold cap at hc; omega)
  refine ⟨e, by rw [e]; exact hc, ?_⟩
  rw [h.2, ← e]
def okJ (h : Nat) (A : Nat → Nat → Int32) (s : Nat) (J : Nat → Nat → Int64) : Prop := ∀ i j, i < j → j ≤ h → okS A s J i j
/-- .. for all spans shorter than n, and those of n words that begin ahead of i -/
def okN (h : Nat) (A : Nat → Nat → Int32) (s : Nat) (J : Nat → Nat → Int64) (n i : Nat) : Prop := ∀ a b, a < b → b ≤ h → (b - a < n ∨ (b - a = n ∧ a < i)) → okS A s J a b
theorem okN_L {h : Nat} {A : Nat → Nat → Int32} {s : Nat} {J : Nat → Nat → Int64} {n i0 : Nat} (hN : okN h A s J n i0) {i j : Nat} (hj : j ≤ h) (hl : j - i ≤ n) : okL J (lW J) i j := fun a b _ h2 h3 h4 => by
  have q := okS_l (hN a b h2 (by omega) (Or.inl (by omega)))
  exact ⟨q.2.2, q.2.1⟩
theorem okS_fr {A : Nat → Nat → Int32} {s : Nat} {J J' : Nat → Nat → Int64} {i j : Nat} (hij : i < j) (h : okS A s J i j) (e1 : ∀ a b, i ≤ a → a < b → b ≤ j → J' 1 (21 * a + b) = J 1 (21 * a + b)) (e0 : ∀ c, c < 20 → J' 0 (20 * (21 * i + j) + c) = J 0 (20 * (21 * i + j) + c)) : okS A s J' i j := by
  have eL : ∀ a b, i ≤ a → a < b → b ≤ j → b - a < j - i → lW J a b = lW J' a b := fun a b h1 h2 h3 _ => by
    unfold lW
    rw [e1 a b h1 h2 h3]
  refine ⟨fun c hc => ?_, ?_⟩
  · rw [e0 c hc, h.1 c hc, mW_cg eL]
  · rw [e1 i j (Nat.le_refl _) hij (Nat.le_refl _), h.2, csW_cg 20 (fun d _ => mW_cg eL)]
theorem ix20m {x c : Nat} : c8 20 * nI x + nI c = nI (20 * x + c) := ix20
theorem half {d : Nat} (h : d < 21) : nI d / Int32.ofInt 2 = nI (d / 2) := nI_div (b := 2) (by omega) (by decide) (by decide)
theorem rem2 {d : Nat} (h : d < 21) : nI d - nI d / Int32.ofInt 2 * Int32.ofInt 2 = nI (d % 2) := by
  rw [half h, show Int32.ofInt 2 = nI 2 from rfl, nI_mul, nI_sub (Nat.div_mul_le_self d 2)]
  congr 1
  have := Nat.div_add_mod d 2
  omega
theorem mIsLetE (f : Nat → zC) (o : Nat → Int32) (A : Nat → Nat → Int32) (J : Nat → Nat → Int64) {s k b : Nat} (hs : s ≤ 8) (ho : o 28 = nI s) (hk : k < 10) (hb : b ≤ 1) {x y : Int32} (ex : x = nI k) (ey : y = nI b) : zK 1 zX7_isLet [.ref 76, .int x, .int y] (wR f o A J) (fun r w' => w' = (wR f o A J) ∧ ((ltW A s k b = true ∧ r = some (.int 1)) ∨ (ltW A s k b = false ∧ r = some (.int 0)))) := by
  subst ex ey
  exact mIsLet f o A J hs ho hk hb
set_option maxHeartbeats 1000000 in
set_option maxRecDepth 20000 in
theorem rkC (f : Nat → zC) (o : Nat → Int32) (A : Nat → Nat → Int32) (J : Nat → Nat → Int64) {h : Nat} (hh : h ≤ 20) (hw : nnW h (A 8)) {s : Nat} (hs : s ≤ 8) (ho : o 28 = nI s) {i j n : Nat} (hij : i + n = j) (hn : 1 ≤ n) (hj : j ≤ h) (hN : okN h A s J n i) {n0 : Nat} {Q : Option Value → zW → Prop} (kk : ∀ g, (∀ x, ¬ (20 * (21 * i + j) ≤ x ∧ x < 20 * (21 * i + j) + 20) → g x = J 0 x) → (∀ x, x < 20 → g (20 * (21 * i + j) + x) = lN (mW A s (lW J) i j x)) → zV (zMo 3 zX7_reckons) false n0 0 0 190 [(5, .long (lN (csW (mW A s (lW J) i j) 20))), (4, .int (nI j)), (3, .int (nI i)), (2, .int (nI n)), (0, .ref 76), (1, .int (nI s))] [] (wR f o A (updJ J 0 g)) Q) : ∀ (c d : Nat) (g : Nat → Int64), d + c = 20 → (∀ x, ¬ (20 * (21 * i + j) ≤ x ∧ x < 20 * (21 * i + j) + 20) → g x = J 0 x) → (∀ x, x < d → g (20 * (21 * i + j) + x) = lN (mW A s (lW J) i j x)) → ∀ {x7 : Int32}, x7 = nI d → zV (zMo 3 zX7_reckons) false n0 0 0 38 [(7, .int x7), (5, .long (lN (csW (mW A s (lW J) i j) d))), (4, .int (nI j)), (3, .int (nI i)), (2, .int (nI n)), (0, .ref 76), (1, .int (nI s))] [] (wR f o A (updJ J 0 g)) Q := by
  intro c
  induction c with
  | zero =>
    intro d g hd hg1 hg2 x7 e7
    subst e7
    iterate 3 (refine zv_step (bX7_reckons 3) rfl rfl trivial ?_)
    refine zv_ift (show nI 20 ≤ nI d from nI_le (by omega) (by omega)) ?_
    obtain rfl : d = 20 := by omega
    refine zv_locals (l := [(7, .int (nI 20)), (5, .long (lN (csW (mW A s (lW J) i j) 20))), (4, .int (nI j)), (3, .int (nI i)), (2, .int (nI n)), (0, .ref 76), (1, .int (nI s))]) (l' := [(5, .long (lN (csW (mW A s (lW J) i j) 20))), (4, .int (nI j)), (3, .int (nI i)), (2, .int (nI n)), (0, .ref 76), (1, .int (nI s))]) ?_ (kk g hg1 hg2)
    simp
  | succ c ih =>
    intro d g hd hg1 hg2 x7 e7
    subst e7
    iterate 3 (refine zv_step (bX7_reckons 3) rfl rfl trivial ?_)
    refine zv_iff (show ¬ nI 20 ≤ nI d from fun h => absurd ((nI_leI (by omega) (by omega)).mp h) (by omega)) ?_
    iterate 2 (refine zv_step (bX7_reckons 3) rfl rfl trivial ?_)
    refine zv_step (bX7_reckons 3) rfl rfl (show ¬ Int32.ofInt 2 = 0 by decide) ?_
    iterate 2 (refine zv_step (bX7_reckons 3) rfl rfl trivial ?_)
    refine zv_ifb (fun h50 => ?_) (fun h50 => ?_)
    · have q50 : d % 2 = 0 := by
        have h9 : ¬ nI d - nI d / Int32.ofInt 2 * Int32.ofInt 2 = nI 1 := h50
        rw [rem2 (by omega), nI_eq (by omega) (by decide)] at h9
        omega
      iterate 5 (refine zv_step (bX7_reckons 3) rfl rfl trivial ?_)
      refine zv_step (bX7_reckons 3) rfl rfl (show ¬ Int32.ofInt 2 = 0 by decide) ?_
      iterate 1 (refine zv_step (bX7_reckons 3) rfl rfl trivial ?_)
      refine zv_V2 (bX7_reckons 3) rfl rfl rfl rfl rfl rfl rfl ⟨rfl, rfl, rfl⟩ ⟨by decide, by decide⟩ ⟨Nat.zero_le _, Nat.zero_le _⟩ (mIsLetE f o A _ hs ho (k := d / 2) (b := 0) (by omega) (by decide) (half (by omega)) rfl) ?_
      rintro _ _ ⟨rfl, ⟨g1, rfl⟩ | ⟨g1, rfl⟩⟩
      · skip
        iterate 1 (refine zv_step (bX7_reckons 3) rfl rfl trivial ?_)
        refine zv_iff (by decide) ?_
        iterate 2 (refine zv_step (bX7_reckons 3) rfl rfl trivial ?_)
        refine zv_ift (by decide) ?_
        iterate 5 (refine zv_step (bX7_reckons 3) rfl rfl trivial ?_)
        refine zv_ift (by decide) ?_
        iterate 2 (refine zv_step (bX7_reckons 3) rfl rfl trivial ?_)
        refine zv_ift (by decide) ?_
        iterate 3 (refine zv_step (bX7_reckons 3) rfl rfl trivial ?_)
        refine zv_step (bX7_reckons 3) rfl rfl (show ¬ Int32.ofInt 2 = 0 by decide) ?_
        iterate 2 (refine zv_step (bX7_reckons 3) rfl rfl trivial ?_)
        refine zv_V3 (bX7_reckons 3) rfl rfl rfl rfl rfl rfl rfl ⟨rfl, rfl, rfl⟩ ⟨by decide, by decide⟩ ⟨Nat.zero_le _, Nat.zero_le _⟩ (mWithin f o A (updJ J 0 g) hh hw (i := i) (j := j) (by omega) (by omega) (L := lW J) (okN_L hN (i := i) (j := j) (by omega) (by omega)) (k := d / 2) (by omega) (half (by omega)) rfl rfl) ?_
        rintro _ _ ⟨rfl, rfl⟩
        iterate 13 (refine zv_step (bX7_reckons 3) rfl rfl trivial ?_)
        refine zv_step (bX7_reckons 3) rfl rfl (show vp_in (c8 20 * (c8 21 * nI i + nI j) + nI d) 8820 by rw [show c8 20 * (c8 21 * nI i + nI j) + nI d = nI (20 * (21 * i + j) + d) by rw [ix21, ix20m]]; exact vp_in_nI (by omega) (by decide)) ?_
        iterate 2 (refine zv_step (bX7_reckons 3) rfl rfl trivial ?_)
        refine zv_S2 (bX7_reckons 3) rfl rfl rfl rfl ⟨rfl, rfl, rfl⟩ ⟨by decide, by decide⟩ ⟨Nat.zero_le _, Nat.zero_le _⟩ (mPlus _ (csW_le _ _) (a := csW (mW A s (lW J) i j) d) (b := wi (eW A) (A 6) (lW J) (d / 2) i j) (wi_le (okN_L hN (i := i) (j := j) (by omega) (by omega)))) ?_
        rintro _ _ ⟨rfl, rfl⟩
        iterate 3 (refine zv_step (bX7_reckons 3) rfl rfl trivial ?_)
        have e9 : mW A s (lW J) i j d = wi (eW A) (A 6) (lW J) (d / 2) i j := mW_e q50 g1
        refine zv_world (show _ = wR f o A (updJ J 0 (vp_updL g (20 * (21 * i + j) + d) (lN (mW A s (lW J) i j d)))) from by rw [e9, show 20 * (21 * i + j) + d = (c8 20 * (c8 21 * nI i + nI j) + nI d).toNatClampNeg by rw [show c8 20 * (c8 21 * nI i + nI j) + nI d = nI (20 * (21 * i + j) + d) by rw [ix21, ix20m], nI_clamp (by omega)]]; rfl) ?_
        have e10 : csW (mW A s (lW J) i j) (d + 1) = plW (csW (mW A s (lW J) i j) d) (wi (eW A) (A 6) (lW J) (d / 2) i j) := by
          show plW _ _ = _
          rw [e9]
        have h9 := ih (d + 1) (vp_updL g (20 * (21 * i + j) + d) (lN (mW A s (lW J) i j d))) (by omega) (fun x hx => by
          unfold vp_updL
          rw [if_neg (by omega)]
          exact hg1 x hx) (fun x hx => by
          unfold vp_updL
          split
          · rename_i e
            rw [show x = d by omega]
          · exact hg2 x (by omega)) (x7 := nI d + Int32.ofInt 1) (nI_1 d)
        rw [e10] at h9
        refine zv_locals (l := [(7, .int (nI d + Int32.ofInt 1)), (5, .long (lN (plW (csW (mW A s (lW J) i j) d) (wi (eW A) (A 6) (lW J) (d / 2) i j)))), (10, .long (lN (wi (eW A) (A 6) (lW J) (d / 2) i j))), (9, .int (Int32.ofInt 1)), (8, .int (Int32.ofInt 0)), (4, .int (nI j)), (3, .int (nI i)), (2, .int (nI n)), (0, .ref 76), (1, .int (nI s))]) (l' := [(7, .int (nI d + Int32.ofInt 1)), (5, .long (lN (plW (csW (mW A s (lW J) i j) d) (wi (eW A) (A 6) (lW J) (d / 2) i j)))), (4, .int (nI j)), (3, .int (nI i)), (2, .int (nI n)), (0, .ref 76), (1, .int (nI s))]) ?_ h9
        simp
      · skip
        iterate 1 (refine zv_step (bX7_reckons 3) rfl rfl trivial ?_)
        refine zv_ift (by decide) ?_
        iterate 4 (refine zv_step (bX7_reckons 3) rfl rfl trivial ?_)
        refine zv_iff (by decide) ?_
        iterate 15 (refine zv_step (bX7_reckons 3) rfl rfl trivial ?_)
        refine zv_step (bX7_reckons 3) rfl rfl (show vp_in (c8 20 * (c8 21 * nI i + nI j) + nI d) 8820 by rw [show c8 20 * (c8 21 * nI i + nI j) + nI d = nI (20 * (21 * i + j) + d) by rw [ix21, ix20m]]; exact vp_in_nI (by omega) (by decide)) ?_
        iterate 2 (refine zv_step (bX7_reckons 3) rfl rfl trivial ?_)
        refine zv_S2 (bX7_reckons 3) rfl rfl rfl rfl ⟨rfl, rfl, rfl⟩ ⟨by decide, by decide⟩ ⟨Nat.zero_le _, Nat.zero_le _⟩ (mPlus _ (csW_le _ _) (a := csW (mW A s (lW J) i j) d) (b := 0) (Nat.zero_le _)) ?_
        rintro _ _ ⟨rfl, rfl⟩
        iterate 3 (refine zv_step (bX7_reckons 3) rfl rfl trivial ?_)
        have e9 : mW A s (lW J) i j d = 0 := mW_f (b := 0) q50 g1
        refine zv_world (show _ = wR f o A (updJ J 0 (vp_updL g (20 * (21 * i + j) + d) (lN (mW A s (lW J) i j d)))) from by rw [e9, show 20 * (21 * i + j) + d = (c8 20 * (c8 21 * nI i + nI j) + nI d).toNatClampNeg by rw [show c8 20 * (c8 21 * nI i + nI j) + nI d = nI (20 * (21 * i + j) + d) by rw [ix21, ix20m], nI_clamp (by omega)]]; rfl) ?_
        have e10 : csW (mW A s (lW J) i j) (d + 1) = plW (csW (mW A s (lW J) i j) d) (0) := by
          show plW _ _ = _
          rw [e9]
        have h9 := ih (d + 1) (vp_updL g (20 * (21 * i + j) + d) (lN (mW A s (lW J) i j d))) (by omega) (fun x hx => by
          unfold vp_updL
          rw [if_neg (by omega)]
          exact hg1 x hx) (fun x hx => by
          unfold vp_updL
          split
          · rename_i e
            rw [show x = d by omega]
          · exact hg2 x (by omega)) (x7 := nI d + Int32.ofInt 1) (nI_1 d)
        rw [e10] at h9
        refine zv_locals (l := [(7, .int (nI d + Int32.ofInt 1)), (5, .long (lN (plW (csW (mW A s (lW J) i j) d) (0)))), (10, .long (lN (0))), (9, .int (Int32.ofInt 0)), (8, .int (Int32.ofInt 0)), (4, .int (nI j)), (3, .int (nI i)), (2, .int (nI n)), (0, .ref 76), (1, .int (nI s))]) (l' := [(7, .int (nI d + Int32.ofInt 1)), (5, .long (lN (plW (csW (mW A s (lW J) i j) d) (0)))), (4, .int (nI j)), (3, .int (nI i)), (2, .int (nI n)), (0, .ref 76), (1, .int (nI s))]) ?_ h9
        simp
    · have q50 : d % 2 = 1 := by
        have h9 : nI d - nI d / Int32.ofInt 2 * Int32.ofInt 2 = nI 1 := Decidable.not_not.mp h50
        rwa [rem2 (by omega), nI_eq (by omega) (by decide)] at h9
      iterate 6 (refine zv_step (bX7_reckons 3) rfl rfl trivial ?_)
      refine zv_step (bX7_reckons 3) rfl rfl (show ¬ Int32.ofInt 2 = 0 by decide) ?_
      iterate 1 (refine zv_step (bX7_reckons 3) rfl rfl trivial ?_)
      refine zv_V2 (bX7_reckons 3) rfl rfl rfl rfl rfl rfl rfl ⟨rfl, rfl, rfl⟩ ⟨by decide, by decide⟩ ⟨Nat.zero_le _, Nat.zero_le _⟩ (mIsLetE f o A _ hs ho (k := d / 2) (b := 1) (by omega) (by decide) (half (by omega)) rfl) ?_
      rintro _ _ ⟨rfl, ⟨g1, rfl⟩ | ⟨g1, rfl⟩⟩
      · skip
        iterate 1 (refine zv_step (bX7_reckons 3) rfl rfl trivial ?_)
        refine zv_iff (by decide) ?_
        iterate 2 (refine zv_step (bX7_reckons 3) rfl rfl trivial ?_)
        refine zv_iff (by decide) ?_
        iterate 3 (refine zv_step (bX7_reckons 3) rfl rfl trivial ?_)
        refine zv_iale (bX7_reckons 3) rfl rfl (vp_in_nI (by omega) (by decide)) (show A 8 (nI i).toNatClampNeg = nI (eW A (i)) by rw [nI_clamp (by omega)]; exact (eW_of hw (by omega)).1) ?_
        iterate 2 (refine zv_step (bX7_reckons 3) rfl rfl trivial ?_)
        refine zv_ifb (fun h86 => ?_) (fun h86 => ?_)
        · have q86 : ¬ eW A (i) = 29 := fun e => h86 (by rw [e]; rfl)
          iterate 4 (refine zv_step (bX7_reckons 3) rfl rfl trivial ?_)
          refine zv_iff (by decide) ?_
          iterate 15 (refine zv_step (bX7_reckons 3) rfl rfl trivial ?_)
          refine zv_step (bX7_reckons 3) rfl rfl (show vp_in (c8 20 * (c8 21 * nI i + nI j) + nI d) 8820 by rw [show c8 20 * (c8 21 * nI i + nI j) + nI d = nI (20 * (21 * i + j) + d) by rw [ix21, ix20m]]; exact vp_in_nI (by omega) (by decide)) ?_
          iterate 2 (refine zv_step (bX7_reckons 3) rfl rfl trivial ?_)
          refine zv_S2 (bX7_reckons 3) rfl rfl rfl rfl ⟨rfl, rfl, rfl⟩ ⟨by decide, by decide⟩ ⟨Nat.zero_le _, Nat.zero_le _⟩ (mPlus _ (csW_le _ _) (a := csW (mW A s (lW J) i j) d) (b := 0) (Nat.zero_le _)) ?_
          rintro _ _ ⟨rfl, rfl⟩
          iterate 3 (refine zv_step (bX7_reckons 3) rfl rfl trivial ?_)
          have e9 : mW A s (lW J) i j d = 0 := mW_x q50 (fun e => q86 e.1)
          refine zv_world (show _ = wR f o A (updJ J 0 (vp_updL g (20 * (21 * i + j) + d) (lN (mW A s (lW J) i j d)))) from by rw [e9, show 20 * (21 * i + j) + d = (c8 20 * (c8 21 * nI i + nI j) + nI d).toNatClampNeg by rw [show c8 20 * (c8 21 * nI i + nI j) + nI d = nI (20 * (21 * i + j) + d) by rw [ix21, ix20m], nI_clamp (by omega)]]; rfl) ?_
          have e10 : csW (mW A s (lW J) i j) (d + 1) = plW (csW (mW A s (lW J) i j) d) (0) := by
            show plW _ _ = _
            rw [e9]
          have h9 := ih (d + 1) (vp_updL g (20 * (21 * i + j) + d) (lN (mW A s (lW J) i j d))) (by omega) (fun x hx => by
            unfold vp_updL
            rw [if_neg (by omega)]
            exact hg1 x hx) (fun x hx => by
            unfold vp_updL
            split
            · rename_i e
              rw [show x = d by omega]
            · exact hg2 x (by omega)) (x7 := nI d + Int32.ofInt 1) (nI_1 d)
          rw [e10] at h9
          refine zv_locals (l := [(7, .int (nI d + Int32.ofInt 1)), (5, .long (lN (plW (csW (mW A s (lW J) i j) d) (0)))), (10, .long (lN (0))), (9, .int (Int32.ofInt 0)), (8, .int (Int32.ofInt 1)), (4, .int (nI j)), (3, .int (nI i)), (2, .int (nI n)), (0, .ref 76), (1, .int (nI s))]) (l' := [(7, .int (nI d + Int32.ofInt 1)), (5, .long (lN (plW (csW (mW A s (lW J) i j) d) (0)))), (4, .int (nI j)), (3, .int (nI i)), (2, .int (nI n)), (0, .ref 76), (1, .int (nI s))]) ?_ h9
          simp
        · have q86 : eW A (i) = 29 := (nI_eq (by have := (eW_of hw (show i < h by omega)).2; omega) (by decide)).mp (Decidable.not_not.mp h86)
          iterate 5 (refine zv_step (bX7_reckons 3) rfl rfl trivial ?_)
          refine zv_iale (bX7_reckons 3) rfl rfl (show vp_in (nI j - Int32.ofInt 1) 20 by rw [show nI j - Int32.ofInt 1 = nI (j - 1) from sub_1 (by omega)]; exact vp_in_nI (by omega) (by decide)) (show A 8 (nI j - Int32.ofInt 1).toNatClampNeg = nI (eW A (j - 1)) by rw [show nI j - Int32.ofInt 1 = nI (j - 1) from sub_1 (by omega), nI_clamp (by omega)]; exact (eW_of hw (by omega)).1) ?_
          iterate 2 (refine zv_step (bX7_reckons 3) rfl rfl trivial ?_)
          refine zv_ifb (fun h100 => ?_) (fun h100 => ?_)
          · have q100 : ¬ eW A (j - 1) = 30 := fun e => h100 (by rw [e]; rfl)
            iterate 4 (refine zv_step (bX7_reckons 3) rfl rfl trivial ?_)
            refine zv_iff (by decide) ?_
            iterate 15 (refine zv_step (bX7_reckons 3) rfl rfl trivial ?_)
            refine zv_step (bX7_reckons 3) rfl rfl (show vp_in (c8 20 * (c8 21 * nI i + nI j) + nI d) 8820 by rw [show c8 20 * (c8 21 * nI i + nI j) + nI d = nI (20 * (21 * i + j) + d) by rw [ix21, ix20m]]; exact vp_in_nI (by omega) (by decide)) ?_
            iterate 2 (refine zv_step (bX7_reckons 3) rfl rfl trivial ?_)
            refine zv_S2 (bX7_reckons 3) rfl rfl rfl rfl ⟨rfl, rfl, rfl⟩ ⟨by decide, by decide⟩ ⟨Nat.zero_le _, Nat.zero_le _⟩ (mPlus _ (csW_le _ _) (a := csW (mW A s (lW J) i j) d) (b := 0) (Nat.zero_le _)) ?_
            rintro _ _ ⟨rfl, rfl⟩
            iterate 3 (refine zv_step (bX7_reckons 3) rfl rfl trivial ?_)
            have e9 : mW A s (lW J) i j d = 0 := mW_x q50 (fun e => q100 e.2)
            refine zv_world (show _ = wR f o A (updJ J 0 (vp_updL g (20 * (21 * i + j) + d) (lN (mW A s (lW J) i j d)))) from by rw [e9, show 20 * (21 * i + j) + d = (c8 20 * (c8 21 * nI i + nI j) + nI d).toNatClampNeg by rw [show c8 20 * (c8 21 * nI i + nI j) + nI d = nI (20 * (21 * i + j) + d) by rw [ix21, ix20m], nI_clamp (by omega)]]; rfl) ?_
            have e10 : csW (mW A s (lW J) i j) (d + 1) = plW (csW (mW A s (lW J) i j) d) (0) := by
              show plW _ _ = _
              rw [e9]
            have h9 := ih (d + 1) (vp_updL g (20 * (21 * i + j) + d) (lN (mW A s (lW J) i j d))) (by omega) (fun x hx => by
              unfold vp_updL
              rw [if_neg (by omega)]
              exact hg1 x hx) (fun x hx => by
              unfold vp_updL
              split
              · rename_i e
                rw [show x = d by omega]
              · exact hg2 x (by omega)) (x7 := nI d + Int32.ofInt 1) (nI_1 d)
            rw [e10] at h9
            refine zv_locals (l := [(7, .int (nI d + Int32.ofInt 1)), (5, .long (lN (plW (csW (mW A s (lW J) i j) d) (0)))), (10, .long (lN (0))), (9, .int (Int32.ofInt 0)), (8, .int (Int32.ofInt 1)), (4, .int (nI j)), (3, .int (nI i)), (2, .int (nI n)), (0, .ref 76), (1, .int (nI s))]) (l' := [(7, .int (nI d + Int32.ofInt 1)), (5, .long (lN (plW (csW (mW A s (lW J) i j) d) (0)))), (4, .int (nI j)), (3, .int (nI i)), (2, .int (nI n)), (0, .ref 76), (1, .int (nI s))]) ?_ h9
            simp
          · have q100 : eW A (j - 1) = 30 := (nI_eq (by have := (eW_of hw (show j - 1 < h by omega)).2; omega) (by decide)).mp (Decidable.not_not.mp h100)
            iterate 5 (refine zv_step (bX7_reckons 3) rfl rfl trivial ?_)
            refine zv_ift (by decide) ?_
            iterate 2 (refine zv_step (bX7_reckons 3) rfl rfl trivial ?_)
            refine zv_iff (by decide) ?_
            iterate 3 (refine zv_step (bX7_reckons 3) rfl rfl trivial ?_)
            refine zv_step (bX7_reckons 3) rfl rfl (show ¬ Int32.ofInt 2 = 0 by decide) ?_
            iterate 6 (refine zv_step (bX7_reckons 3) rfl rfl trivial ?_)
            refine zv_V3 (bX7_reckons 3) rfl rfl rfl rfl rfl rfl rfl ⟨rfl, rfl, rfl⟩ ⟨by decide, by decide⟩ ⟨Nat.zero_le _, Nat.zero_le _⟩ (mWithin f o A (updJ J 0 g) hh hw (i := i + 1) (j := j - 1) (by omega) (by omega) (L := lW J) (okN_L hN (i := i + 1) (j := j - 1) (by omega) (by omega)) (k := d / 2) (by omega) (half (by omega)) (nI_1 i) (sub_1 (by omega))) ?_
            rintro _ _ ⟨rfl, rfl⟩
            iterate 14 (refine zv_step (bX7_reckons 3) rfl rfl trivial ?_)
            refine zv_step (bX7_reckons 3) rfl rfl (show vp_in (c8 20 * (c8 21 * nI i + nI j) + nI d) 8820 by rw [show c8 20 * (c8 21 * nI i + nI j) + nI d = nI (20 * (21 * i + j) + d) by rw [ix21, ix20m]]; exact vp_in_nI (by omega) (by decide)) ?_
            iterate 2 (refine zv_step (bX7_reckons 3) rfl rfl trivial ?_)
            refine zv_S2 (bX7_reckons 3) rfl rfl rfl rfl ⟨rfl, rfl, rfl⟩ ⟨by decide, by decide⟩ ⟨Nat.zero_le _, Nat.zero_le _⟩ (mPlus _ (csW_le _ _) (a := csW (mW A s (lW J) i j) d) (b := wi (eW A) (A 6) (lW J) (d / 2) (i + 1) (j - 1)) (wi_le (okN_L hN (i := i + 1) (j := j - 1) (by omega) (by omega)))) ?_
            rintro _ _ ⟨rfl, rfl⟩
            iterate 3 (refine zv_step (bX7_reckons 3) rfl rfl trivial ?_)
            have e9 : mW A s (lW J) i j d = wi (eW A) (A 6) (lW J) (d / 2) (i + 1) (j - 1) := mW_o q50 g1 q86 q100
            refine zv_world (show _ = wR f o A (updJ J 0 (vp_updL g (20 * (21 * i + j) + d) (lN (mW A s (lW J) i j d)))) from by rw [e9, show 20 * (21 * i + j) + d = (c8 20 * (c8 21 * nI i + nI j) + nI d).toNatClampNeg by rw [show c8 20 * (c8 21 * nI i + nI j) + nI d = nI (20 * (21 * i + j) + d) by rw [ix21, ix20m], nI_clamp (by omega)]]; rfl) ?_
            have e10 : csW (mW A s (lW J) i j) (d + 1) = plW (csW (mW A s (lW J) i j) d) (wi (eW A) (A 6) (lW J) (d / 2) (i + 1) (j - 1)) := by
              show plW _ _ = _
              rw [e9]
            have h9 := ih (d + 1) (vp_updL g (20 * (21 * i + j) + d) (lN (mW A s (lW J) i j d))) (by omega) (fun x hx => by
              unfold vp_updL
              rw [if_neg (by omega)]
              exact hg1 x hx) (fun x hx => by
              unfold vp_updL
              split
              · rename_i e
                rw [show x = d by omega]
              · exact hg2 x (by omega)) (x7 := nI d + Int32.ofInt 1) (nI_1 d)
            rw [e10] at h9
            refine zv_locals (l := [(7, .int (nI d + Int32.ofInt 1)), (5, .long (lN (plW (csW (mW A s (lW J) i j) d) (wi (eW A) (A 6) (lW J) (d / 2) (i + 1) (j - 1))))), (10, .long (lN (wi (eW A) (A 6) (lW J) (d / 2) (i + 1) (j - 1)))), (9, .int (Int32.ofInt 1)), (8, .int (Int32.ofInt 1)), (4, .int (nI j)), (3, .int (nI i)), (2, .int (nI n)), (0, .ref 76), (1, .int (nI s))]) (l' := [(7, .int (nI d + Int32.ofInt 1)), (5, .long (lN (plW (csW (mW A s (lW J) i j) d) (wi (eW A) (A 6) (lW J) (d / 2) (i + 1) (j - 1))))), (4, .int (nI j)), (3, .int (nI i)), (2, .int (nI n)), (0, .ref 76), (1, .int (nI s))]) ?_ h9
            simp
      · skip
        iterate 1 (refine zv_step (bX7_reckons 3) rfl rfl trivial ?_)
        refine zv_ift (by decide) ?_
        iterate 4 (refine zv_step (bX7_reckons 3) rfl rfl trivial ?_)
        refine zv_iff (by decide) ?_
        iterate 15 (refine zv_step (bX7_reckons 3) rfl rfl trivial ?_)
        refine zv_step (bX7_reckons 3) rfl rfl (show vp_in (c8 20 * (c8 21 * nI i + nI j) + nI d) 8820 by rw [show c8 20 * (c8 21 * nI i + nI j) + nI d = nI (20 * (21 * i + j) + d) by rw [ix21, ix20m]]; exact vp_in_nI (by omega) (by decide)) ?_
        iterate 2 (refine zv_step (bX7_reckons 3) rfl rfl trivial ?_)
        refine zv_S2 (bX7_reckons 3) rfl rfl rfl rfl ⟨rfl, rfl, rfl⟩ ⟨by decide, by decide⟩ ⟨Nat.zero_le _, Nat.zero_le _⟩ (mPlus _ (csW_le _ _) (a := csW (mW A s (lW J) i j) d) (b := 0) (Nat.zero_le _)) ?_
        rintro _ _ ⟨rfl, rfl⟩
        iterate 3 (refine zv_step (bX7_reckons 3) rfl rfl trivial ?_)
        have e9 : mW A s (lW J) i j d = 0 := mW_f (b := 1) q50 g1
        refine zv_world (show _ = wR f o A (updJ J 0 (vp_updL g (20 * (21 * i + j) + d) (lN (mW A s (lW J) i j d)))) from by rw [e9, show 20 * (21 * i + j) + d = (c8 20 * (c8 21 * nI i + nI j) + nI d).toNatClampNeg by rw [show c8 20 * (c8 21 * nI i + nI j) + nI d = nI (20 * (21 * i + j) + d) by rw [ix21, ix20m], nI_clamp (by omega)]]; rfl) ?_
        have e10 : csW (mW A s (lW J) i j) (d + 1) = plW (csW (mW A s (lW J) i j) d) (0) := by
          show plW _ _ = _
          rw [e9]
        have h9 := ih (d + 1) (vp_updL g (20 * (21 * i + j) + d) (lN (mW A s (lW J) i j d))) (by omega) (fun x hx => by
          unfold vp_updL
          rw [if_neg (by omega)]
          exact hg1 x hx) (fun x hx => by
          unfold vp_updL
          split
          · rename_i e
            rw [show x = d by omega]
          · exact hg2 x (by omega)) (x7 := nI d + Int32.ofInt 1) (nI_1 d)
        rw [e10] at h9
        refine zv_locals (l := [(7, .int (nI d + Int32.ofInt 1)), (5, .long (lN (plW (csW (mW A s (lW J) i j) d) (0)))), (10, .long (lN (0))), (9, .int (Int32.ofInt 0)), (8, .int (Int32.ofInt 1)), (4, .int (nI j)), (3, .int (nI i)), (2, .int (nI n)), (0, .ref 76), (1, .int (nI s))]) (l' := [(7, .int (nI d + Int32.ofInt 1)), (5, .long (lN (plW (csW (mW A s (lW J) i j) d) (0)))), (4, .int (nI j)), (3, .int (nI i)), (2, .int (nI n)), (0, .ref 76), (1, .int (nI s))]) ?_ h9
        simp
theorem span_ne {a b i j : Nat} (hb : b ≤ 20) (hj : j ≤ 20) (h : ¬ (a = i ∧ b = j)) : 21 * a + b ≠ 21 * i + j := by omega
theorem okN_step {h : Nat} (hh : h ≤ 20) {A : Nat → Nat → Int32} {s : Nat} {J : Nat → Nat → Int64} {i j n : Nat} (hij : i + n = j) (hn : 1 ≤ n) (hj : j ≤ h) (hN : okN h A s J n i) {g : Nat → Int64} (hg1 : (∀ x, ¬ (20 * (21 * i + j) ≤ x ∧ x < 20 * (21 * i + j) + 20) → g x = J 0 x)) (hg2 : (∀ x, x < 20 → g (20 * (21 * i + j) + x) = lN (mW A s (lW J) i j x))) : okN h A s (updJ (updJ J 0 g) 1 (vp_updL (J 1) (21 * i + j) (lN (csW (mW A s (lW J) i j) 20)))) n (i + 1) := by
  have f1 : ∀ x, x ≠ 21 * i + j → updJ (updJ J 0 g) 1 (vp_updL (J 1) (21 * i + j) (lN (csW (mW A s (lW J) i j) 20))) 1 x = J 1 x := fun x hx => if_neg hx
  have f0 : ∀ x, updJ (updJ J 0 g) 1 (vp_updL (J 1) (21 * i + j) (lN (csW (mW A s (lW J) i j) 20))) 0 x = g x := fun x => rfl
  intro a b hab hb hf
  by_cases e : a = i ∧ b = j
  · obtain ⟨rfl, rfl⟩ := e
    have eL : ∀ a' b', a ≤ a' → a' < b' → b' ≤ b → b' - a' < b - a → lW J a' b' = lW (updJ (updJ J 0 g) 1 (vp_updL (J 1) (21 * a + b) (lN (csW (mW A s (lW J) a b) 20)))) a' b' := fun a' b' h1 h2 h3 h4 => by
      exact congrArg (fun v : Int64 => v.toInt.toNat) (f1 _ (span_ne (by omega) (by omega) (by omega))).symm
    refine ⟨fun c hc => ?_, ?_⟩
    · rw [f0, hg2 c hc, mW_cg eL]
    · rw [csW_cg 20 (fun d _ => (mW_cg (c := d) eL).symm)]
      exact if_pos rfl
  · refine okS_fr hab (hN a b hab hb (by omega)) (fun a' b' h1 h2 h3 => f1 _ (span_ne (by omega) (by omega) (by omega))) (fun c hc => ?_)
    rw [f0]
    exact hg1 _ (by have := span_ne (a := a) (b := b) (i := i) (j := j) (by omega) (by omega) e; omega)
set_option maxHeartbeats 1000000 in
set_option maxRecDepth 20000 in
theorem rkI (f : Nat → zC) (o : Nat → Int32) (A : Nat → Nat → Int32) {h : Nat} (hh : h ≤ 20) (hw : nnW h (A 8)) (ho10 : o 10 = nI h) {s : Nat} (hs : s ≤ 8) (ho : o 28 = nI s) {n : Nat} (hn : 1 ≤ n) (hnh : n ≤ h) {n0 : Nat} {Q : Option Value → zW → Prop} (kk : ∀ J', okN h A s J' (n + 1) 0 → zV (zMo 3 zX7_reckons) false n0 0 0 210 [(2, .int (nI n)), (0, .ref 76), (1, .int (nI s))] [] (wR f o A J') Q) : ∀ (c i : Nat) (J : Nat → Nat → Int64), i + c + n = h + 1 → okN h A s J n i → ∀ {x3 : Int32}, x3 = nI i → zV (zMo 3 zX7_reckons) false n0 0 0 17 [(3, .int x3), (2, .int (nI n)), (0, .ref 76), (1, .int (nI s))] [] (wR f o A J) Q := by
  intro c
  induction c with
  | zero =>
    intro i J hc hN x3 e3
    subst e3
    iterate 6 (refine zv_step (bX7_reckons 3) rfl rfl trivial ?_)
    refine zv_ift (show o 10 < nI i + nI n by rw [ho10, nI_add]; exact nI_lt (by omega) (by omega)) ?_
    refine zv_locals (l := [(3, .int (nI i)), (2, .int (nI n)), (0, .ref 76), (1, .int (nI s))]) (l' := [(2, .int (nI n)), (0, .ref 76), (1, .int (nI s))]) ?_ (kk J (fun a b h1 h2 h3 => hN a b h1 h2 (by omega)))
    simp
  | succ c ih =>
    intro i J hc hN x3 e3
    subst e3
    iterate 6 (refine zv_step (bX7_reckons 3) rfl rfl trivial ?_)
    refine zv_iff (show ¬ o 10 < nI i + nI n by rw [ho10, nI_add]; exact nI_nlt (by omega) (by omega)) ?_
    iterate 8 (refine zv_step (bX7_reckons 3) rfl rfl trivial ?_)
    refine zv_world (show _ = wR f o A (updJ J 0 (J 0)) from rfl) ?_
    refine zv_locals (l := [(7, .int (Int32.ofInt 0)), (5, .long (lN 0)), (4, .int (nI i + nI n)), (3, .int (nI i)), (2, .int (nI n)), (0, .ref 76), (1, .int (nI s))]) (l' := [(7, .int (Int32.ofInt 0)), (5, .long (lN 0)), (4, .int (nI i + nI n)), (3, .int (nI i)), (2, .int (nI n)), (0, .ref 76), (1, .int (nI s))]) (fun q h => h) ?_
    rw [nI_add]
    refine rkC f o A J hh hw hs ho (i := i) (j := i + n) rfl hn (by omega) hN (fun g hg1 hg2 => ?_) 20 0 (J 0) (by omega) (fun _ _ => rfl) (fun x hx => absurd hx (by omega)) rfl
    iterate 8 (refine zv_step (bX7_reckons 3) rfl rfl trivial ?_)
    refine zv_step (bX7_reckons 3) rfl rfl (show vp_in (c8 21 * nI i + nI (i + n)) 441 by rw [ix21]; exact vp_in_nI (by omega) (by decide)) ?_
    iterate 2 (refine zv_step (bX7_reckons 3) rfl rfl trivial ?_)
    refine zv_world (show _ = wR f o A (updJ (updJ J 0 g) 1 (vp_updL (J 1) (21 * i + (i + n)) (lN (csW (mW A s (lW J) i (i + n)) 20)))) from by rw [show 21 * i + (i + n) = (c8 21 * nI i + nI (i + n)).toNatClampNeg by rw [ix21, nI_clamp (by omega)]]; rfl) ?_
    refine zv_locals (l := [(3, .int (nI i + Int32.ofInt 1)), (5, .long (lN (csW (mW A s (lW J) i (i + n)) 20))), (4, .int (nI (i + n))), (2, .int (nI n)), (0, .ref 76), (1, .int (nI s))]) (l' := [(3, .int (nI i + Int32.ofInt 1)), (2, .int (nI n)), (0, .ref 76), (1, .int (nI s))]) ?_ (ih (i + 1) _ (by omega) (okN_step hh rfl hn (by omega) hN hg1 hg2) (nI_1 i))
    simp
set_option maxHeartbeats 1000000 in
set_option maxRecDepth 20000 in
theorem rkN (f : Nat → zC) (o : Nat → Int32) (A : Nat → Nat → Int32) {h : Nat} (hh : h ≤ 20) (hw : nnW h (A 8)) (ho10 : o 10 = nI h) {s : Nat} (hs : s ≤ 8) (ho : o 28 = nI s) {n0 : Nat} : ∀ (c n : Nat) (J : Nat → Nat → Int64), n + c = h + 1 → 1 ≤ n → okN h A s J n 0 → ∀ {x2 : Int32}, x2 = nI n → zV (zMo 3 zX7_reckons) false n0 0 0 7 [(2, .int x2), (0, .ref 76), (1, .int (nI s))] [] (wR f o A J) (fun r w' => r = none ∧ ∃ J', w' = wR f o A J' ∧ okJ h A s J') := by
  intro c
  induction c with
  | zero =>
    intro n J hc hn hN x2 e2
    subst e2
    iterate 4 (refine zv_step (bX7_reckons 3) rfl rfl trivial ?_)
    refine zv_ift (show o 10 < nI n by rw [ho10]; exact nI_lt (by omega) (by omega)) ?_
    exact zv_ret (bX7_reckons 3) rfl rfl (Nat.zero_le _) (Nat.zero_le _) ⟨rfl, J, rfl, fun i j h1 h2 => hN i j h1 h2 (Or.inl (by omega))⟩
  | succ c ih =>
    intro n J hc hn hN x2 e2
    subst e2
    iterate 4 (refine zv_step (bX7_reckons 3) rfl rfl trivial ?_)
    refine zv_iff (show ¬ o 10 < nI n by rw [ho10]; exact nI_nlt (by omega) (by omega)) ?_
    iterate 2 (refine zv_step (bX7_reckons 3) rfl rfl trivial ?_)
    refine zv_locals (l := [(3, .int (Int32.ofInt 0)), (2, .int (nI n)), (0, .ref 76), (1, .int (nI s))]) (l' := [(3, .int (Int32.ofInt 0)), (2, .int (nI n)), (0, .ref 76), (1, .int (nI s))]) (fun q h => h) (rkI f o A hh hw ho10 hs ho hn (by omega) (fun J' hN' => ?_) (h + 1 - n) 0 J (by omega) hN rfl)
    iterate 2 (refine zv_step (bX7_reckons 3) rfl rfl trivial ?_)
    exact ih (n + 1) J' (by omega) (by omega) hN' (nI_1 n)
set_option maxHeartbeats 1000000 in
set_option maxRecDepth 20000 in
theorem mReckons (f : Nat → zC) (o : Nat → Int32) (A : Nat → Nat → Int32) (J : Nat → Nat → Int64) {h : Nat} (hh : h ≤ 20) (hw : nnW h (A 8)) (ho10 : o 10 = nI h) {s : Nat} (hs : s ≤ 8) {x : Int32} (ex : x = nI s) : zK 3 zX7_reckons [.ref 76, .int x] (wR f o A J) (fun r w' => r = none ∧ ∃ J', w' = wR f (upd o 28 (nI s)) A J' ∧ okJ h A s J') := by
  subst ex
  refine zK_of qX7_reckons (by decide +kernel) rfl ?_
  iterate 5 (refine zv_step (bX7_reckons 3) rfl rfl trivial ?_)
  refine zv_world (show _ = wR f (upd o 28 (nI s)) A J from rfl) ?_
  exact rkN f (upd o 28 (nI s)) A hh hw ho10 hs rfl h 1 J (by omega) (Nat.le_refl _) (fun a b h1 h2 h3 => absurd h3 (by omega)) rfl
def ctW (h : Nat) (J : Nat → Nat → Int64) : Nat := if h = 0 then 0 else lW J 0 h
set_option maxHeartbeats 1000000 in
set_option maxRecDepth 20000 in
theorem mCounted (f : Nat → zC) (o : Nat → Int32) (A : Nat → Nat → Int32) (J : Nat → Nat → Int64) {h : Nat} (hh : h ≤ 20) (hw : nnW h (A 8)) (ho10 : o 10 = nI h) {s : Nat} (hs : s ≤ 8) {x : Int32} (ex : x = nI s) : zK 4 zX7_counted [.ref 76, .int x] (wR f o A J) (fun r w' => ∃ J', r = some (.long (lN (ctW h J'))) ∧ w' = wR f (upd o 28 (nI s)) A J' ∧ okJ h A s J') := by
  refine zK_of qX7_counted (by decide +kernel) rfl ?_
  iterate 2 (refine zv_step (bX7_counted 4) rfl rfl trivial ?_)
  refine zv_V1 (bX7_counted 4) rfl rfl rfl rfl rfl rfl rfl ⟨rfl, rfl, rfl⟩ ⟨by decide, by decide⟩ ⟨Nat.zero_le _, Nat.zero_le _⟩ (mReckons f o A J hh hw ho10 hs ex) ?_
  rintro _ _ ⟨rfl, J', rfl, hJ⟩
  iterate 3 (refine zv_step (bX7_counted 4) rfl rfl trivial ?_)
  refine zv_ifb (fun h9 => ?_) (fun h9 => ?_)
  · have q9 : h ≠ 0 := fun e => h9 (by show o 10 = 0; rw [ho10, e]; rfl)
    iterate 4 (refine zv_step (bX7_counted 4) rfl rfl trivial ?_)
    refine zv_lale (bX7_counted 4) rfl rfl (show vp_in (o 10) 441 by rw [ho10]; exact vp_in_nI (by omega) (by decide)) (show J' 1 (o 10).toNatClampNeg = lN (ctW h J') by rw [ho10, nI_clamp (by omega)]; unfold ctW; rw [if_neg q9]; have := (okS_l (hJ 0 h (by omega) (Nat.le_refl _))).2.2; rw [show 21 * 0 + h = h by omega] at this; exact this) ?_
    exact zv_lret (bX7_counted 4) rfl rfl (Nat.zero_le _) (Nat.zero_le _) ⟨J', rfl, rfl, hJ⟩
  · have q9 : h = 0 := (nI_eq (by omega) (by decide)).mp (show nI h = nI 0 by rw [← ho10]; exact Decidable.not_not.mp h9)
    iterate 2 (refine zv_step (bX7_counted 4) rfl rfl trivial ?_)
    exact zv_lret (bX7_counted 4) rfl rfl (Nat.zero_le _) (Nat.zero_le _) ⟨J', by unfold ctW; rw [if_pos q9]; rfl, rfl, hJ⟩
set_option maxHeartbeats 1000000 in
set_option maxRecDepth 20000 in
theorem mReadings (f : Nat → zC) (o : Nat → Int32) (A : Nat → Nat → Int32) (J : Nat → Nat → Int64) {h : Nat} (hh : h ≤ 20) (hw : nnW h (A 8)) (ho10 : o 10 = nI h) (x : Int32) : zK 5 zX7_readings [.ref 76, .int x] (wR f o A J) (fun r w' => ∃ (R : Int64) (o' : Nat → Int32) (J' : Nat → Nat → Int64), r = some (.long R) ∧ w' = wR f o' A J' ∧ ∀ j, j ≠ 16 → j ≠ 28 → o' j = o j) := by
  refine zK_of qX7_readings (by decide +kernel) rfl ?_
  iterate 5 (refine zv_step (bX7_readings 5) rfl rfl trivial ?_)
  refine zv_S3 (bX7_readings 5) rfl rfl rfl rfl ⟨rfl, rfl, rfl⟩ ⟨by decide, by decide⟩ ⟨Nat.zero_le _, Nat.zero_le _⟩ (mIn _ _ _ _ (a := 0) (b := 8) (by decide) (by decide)) ?_
  rintro _ _ ⟨rfl, ⟨g1, rfl⟩ | ⟨g1, rfl⟩⟩
  · obtain ⟨s, hs, rfl⟩ := in_nat (x := x) (b := 8) (by decide) g1
    iterate 1 (refine zv_step (bX7_readings 5) rfl rfl trivial ?_)
    refine zv_iff (by decide) ?_
    iterate 6 (refine zv_step (bX7_readings 5) rfl rfl trivial ?_)
    refine zv_iff (by decide) ?_
    iterate 2 (refine zv_step (bX7_readings 5) rfl rfl trivial ?_)
    refine zv_V1 (bX7_readings 5) rfl rfl rfl rfl rfl rfl rfl ⟨rfl, rfl, rfl⟩ ⟨by decide, by decide⟩ ⟨Nat.zero_le _, Nat.zero_le _⟩ (mCounted f (upd o 16 (Int32.ofInt 0)) A J hh hw ho10 hs rfl) ?_
    rintro _ _ ⟨J', rfl, rfl, hJ⟩
    iterate 1 (refine zv_step (bX7_readings 5) rfl rfl trivial ?_)
    exact zv_lret (bX7_readings 5) rfl rfl (Nat.zero_le _) (Nat.zero_le _) ⟨_, upd (upd o 16 (Int32.ofInt 0)) 28 (nI s), J', rfl, rfl, fun j a b => by rw [upd_ne _ _ b, upd_ne _ _ a]⟩
  · skip
    iterate 1 (refine zv_step (bX7_readings 5) rfl rfl trivial ?_)
    refine zv_ift (by decide) ?_
    iterate 5 (refine zv_step (bX7_readings 5) rfl rfl trivial ?_)
    refine zv_ift (by decide) ?_
    iterate 1 (refine zv_step (bX7_readings 5) rfl rfl trivial ?_)
    exact zv_lret (bX7_readings 5) rfl rfl (Nat.zero_le _) (Nat.zero_le _) ⟨_, upd o 16 (Int32.ofInt 1), J, rfl, rfl, fun j a b => upd_ne _ _ a⟩
end
section
def sW (g : Nat → Nat) : Nat → Nat
  | 0 => 0
  | c + 1 => sW g c + g c
theorem csW_s (g : Nat → Nat) : ∀ c, csW g c ≤ sW g c
  | 0 => Nat.le_refl _
  | c + 1 => Nat.le_trans (plW_le _ _).2 (Nat.add_le_add_right (csW_s g c) _)
/-- READINGS by a pair of KIND k whose word stands ahead of place a + 1 + c -/
def pfS (E : Nat → Nat) (L : Nat → Nat → Nat) (k a b : Nat) : Nat → Nat
  | 0 => 0
  | c + 1 => pfS E L k a b c + (if E (a + 1 + c) = 18 + k then tmW (L a (a + 1 + c)) (L (a + 1 + c + 1) b) else 0)
theorem wiP_pf {E : Nat → Nat} {L : Nat → Nat → Nat} {k a b : Nat} : ∀ (c d n : Nat), n ≤ pfS E L k a b d → wiP E L k a b c (a + 1 + d) n ≤ pfS E L k a b (d + c)
  | 0, d, n, h => h
  | c + 1, d, n, h => by
    show wiP E L k a b c (a + 1 + d + 1) _ ≤ _
    rw [show d + (c + 1) = d + 1 + c by omega]
    refine wiP_pf c (d + 1) _ ?_
    show _ ≤ pfS E L k a b d + _
    split
    · exact Nat.le_trans (plW_le _ _).2 (Nat.add_le_add_right h _)
    · exact h
/-- what a NODE of KIND k owes that says the words a .. b, PLACE q among those of its KIND -/
def Rk (E : Nat → Nat) (L : Nat → Nat → Nat) (A : Nat → Nat → Int32) (R : Nat → Nat → Nat → Nat → Prop) (k a b q n : Nat) : Prop :=
  (k = 0 ∧ A 2 n = m2 ∧ A 3 n = m2) ∨ (k = 1 ∧ A 2 n = m2 ∧ A 3 n = m2 ∧ dgN (A 1 n) = b - a) ∨
  (k = 7 ∧ ∃ x, 400 ≤ x ∧ x < n ∧ A 2 n = nI x ∧ A 3 n = m2 ∧ R (a + 1) b q x) ∨
  (k = 8 ∧ ∃ x, 400 ≤ x ∧ x < n ∧ A 2 n = nI x ∧ A 3 n = m2 ∧ R (a + 1) (b - 1) q x) ∨
  (k = 9 ∧ ∃ x, 400 ≤ x ∧ x < n ∧ A 2 n = nI x ∧ A 3 n = m2 ∧ R (a + 2) b q x) ∨
  (2 ≤ k ∧ k ≤ 6 ∧ ∃ c r x y, a + 1 + c + 1 < b ∧ E (a + 1 + c) = 18 + k ∧ q = pfS E L k a b c + r ∧ r < tmW (L a (a + 1 + c)) (L (a + 1 + c + 1) b) ∧ 400 ≤ x ∧ x < n ∧ 400 ≤ y ∧ y < n ∧ A 2 n = nI x ∧ A 3 n = nI y ∧ R a (a + 1 + c) (r / L (a + 1 + c + 1) b) x ∧ R (a + 1 + c + 1) b (r % L (a + 1 + c + 1) b) y)
/-- NODE n is READING p of the words i .. j -/
def Rd (E : Nat → Nat) (M : Nat → Nat → Nat → Nat) (L : Nat → Nat → Nat) (A : Nat → Nat → Int32) : Nat → Nat → Nat → Nat → Nat → Prop
  | 0, _, _, _, _ => False
  | f + 1, i, j, p, n => ∃ c q, c < 20 ∧ p = sW (M i j) c + q ∧ q < M i j c ∧ A 0 n = nI (c / 2) ∧ Rk E L A (Rd E M L A f) (c / 2) (i + c % 2) (j - c % 2) q n
theorem Rk_fr {E : Nat → Nat} {L : Nat → Nat → Nat} {A A' : Nat → Nat → Int32} {R R' : Nat → Nat → Nat → Nat → Prop} {k a b q n : Nat} (hn : 400 ≤ n) (e : ∀ r, r < 4 → ∀ x, 400 ≤ x → x ≤ n → A' r x = A r x) (hR : ∀ i j p x, 400 ≤ x → x < n → R i j p x → R' i j p x) (h : Rk E L A R k a b q n) : Rk E L A' R' k a b q n := by
  have e1 := e 1 (by decide) n hn (Nat.le_refl _)
  have e2 := e 2 (by decide) n hn (Nat.le_refl _)
  have e3 := e 3 (by decide) n hn (Nat.le_refl _)
  unfold Rk
  rw [e1, e2, e3]
  rcases h with h | h | ⟨k7, x, x1, x2, h2, h3, hr⟩ | ⟨k7, x, x1, x2, h2, h3, hr⟩ | ⟨k7, x, x1, x2, h2, h3, hr⟩ | ⟨k1, k6, c, r, x, y, hc, hE, hq, hr, x1, x2, y1, y2, h2, h3, rx, ry⟩
  · exact Or.inl h
  · exact Or.inr (Or.inl h)
  · exact Or.inr (Or.inr (Or.inl ⟨k7, x, x1, x2, h2, h3, hR _ _ _ _ x1 x2 hr⟩))
  · exact Or.inr (Or.inr (Or.inr (Or.inl ⟨k7, x, x1, x2, h2, h3, hR _ _ _ _ x1 x2 hr⟩)))
  · exact Or.inr (Or.inr (Or.inr (Or.inr (Or.inl ⟨k7, x, x1, x2, h2, h3, hR _ _ _ _ x1 x2 hr⟩))))
  · exact Or.inr (Or.inr (Or.inr (Or.inr (Or.inr ⟨k1, k6, c, r, x, y, hc, hE, hq, hr, x1, x2, y1, y2, h2, h3, hR _ _ _ _ x1 x2 rx, hR _ _ _ _ y1 y2 ry⟩))))
theorem Rd_fr {E : Nat → Nat} {M : Nat → Nat → Nat → Nat} {L : Nat → Nat → Nat} {A A' : Nat → Nat → Int32} : ∀ (f i j p n : Nat), 400 ≤ n → (∀ r, r < 4 → ∀ x, 400 ≤ x → x ≤ n → A' r x = A r x) → Rd E M L A f i j p n → Rd E M L A' f i j p n
  | 0, _, _, _, _, _, _, h => h
  | f + 1, i, j, p, n, hn, e, ⟨c, q, h1, h2, h3, h4, h5⟩ => ⟨c, q, h1, h2, h3, (e 0 (by decide) n hn (Nat.le_refl _)).trans h4, Rk_fr hn e (fun i j p x x1 x2 hr => Rd_fr f i j p x x1 (fun r hr0 y y1 y2 => e r hr0 y y1 (by omega)) hr) h5⟩
/-- NODES were made from place 400 + q on; the last is 400 + q1, and has them all -/
def tkF (A : Nat → Nat → Int32) (q : Nat) (A' : Nat → Nat → Int32) (q1 len : Nat) : Prop := (∀ r, 6 ≤ r → A' r = A r) ∧ tbI 400 (400 + (q1 + 1)) A' ∧ (∀ r x, x < 400 + q → A' r x = A r x) ∧ q ≤ q1 ∧ q1 + 1 - q ≤ len ∧ szN A' (400 + q1) = q1 + 1 - q
theorem szN_new {A : Nat → Nat → Int32} {n z : Nat} {k v x y : Int32} (h : Int32.ofInt 1 + rdv (A 4) x + rdv (A 4) y = nI z) (hz : z ≤ 40) : szN (setsA A n k v x y) n = z := szN_of (A := setsA A n k v x y) ((upd_self _ _ _).trans h) hz
theorem tkF_lf {A : Nat → Nat → Int32} {q : Nat} (hT : tbI 400 (400 + q) A) (hq : q < 45) {k : Nat} {v : Int32} (hk : k < 2) (hv : (k = 0 → ∃ w : Nat, w ≤ 9 ∧ v = nI w) ∧ (k = 1 → ∃ w : Nat, w ≤ 9999 ∧ v = nI w)) {len : Nat} (hl : 1 ≤ len) : tkF A q (setsA A (400 + q) (nI k) v m2 m2) q len :=
  ⟨fun r hr => setsA_r hr, tbI_sets hT (by omega) (by omega) (by omega) (Or.inl ⟨hk, rfl, rfl⟩) ⟨fun h => hv.1 (by omega), hv.2, fun h => absurd h (by omega)⟩, fun r x hx => setsA_o (by omega), Nat.le_refl _, by omega, by rw [szN_new (z := 1) (by rw [rdv_m2]; decide) (by decide)]; omega⟩
theorem tkF_un {A A1 : Nat → Nat → Int32} {q q1 l1 len : Nat} (h : tkF A q A1 q1 l1) (hl : l1 + 1 ≤ len) (h40 : len ≤ 40) (hq : q1 < 45) {k : Nat} {v : Int32} (k7 : 7 ≤ k) (k9 : k ≤ 9) (hv : (k = 9 → ∃ w : Nat, w ≤ 9 ∧ v = nI w) ∧ (k ≤ 8 → v = m2)) : tkF A q (setsA A1 (400 + (q1 + 1)) (nI k) v (nI (400 + q1)) m2) (q1 + 1) len := by
  obtain ⟨h1, h2, h3, h4, h5, h6⟩ := h
  refine ⟨fun r hr => (setsA_r hr).trans (h1 r hr), tbI_sets h2 (by omega) (by omega) (by omega) (Or.inr (Or.inr ⟨k7, 400 + q1, rfl, by omega, by omega, rfl, by omega⟩)) ⟨fun e => hv.1 (by omega), fun e => absurd e (by omega), fun _ e => hv.2 e⟩, fun r x hx => (setsA_o (by omega)).trans (h3 r x hx), by omega, by omega, ?_⟩
  rw [szN_new (z := q1 + 1 + 1 - q) ?_ (by omega)]
  rw [rdv_nI (by omega), rdv_m2, (rN_sz (h2 (400 + q1) (by omega) (by omega))).2.2, h6, show Int32.ofInt 1 = nI 1 from rfl, show Int32.ofInt 0 = nI 0 from rfl, nI_add, nI_add]
  congr 1
  omega
theorem tkF_bi {A A1 A2 : Nat → Nat → Int32} {q q1 q2 l1 l2 len : Nat} (h : tkF A q A1 q1 l1) (g : tkF A1 (q1 + 1) A2 q2 l2) (hl : l1 + l2 + 1 ≤ len) (h40 : len ≤ 40) (hq : q2 < 45) {k : Nat} (k2 : 2 ≤ k) (k6 : k ≤ 6) : tkF A q (setsA A2 (400 + (q2 + 1)) (nI k) m2 (nI (400 + q1)) (nI (400 + q2))) (q2 + 1) len := by
  obtain ⟨h1, h2, h3, h4, h5, h6⟩ := h
  obtain ⟨g1, g2, g3, g4, g5, g6⟩ := g
  have e1 : szN A2 (400 + q1) = q1 + 1 - q := by
    unfold szN at h6 ⊢
    rw [g3 4 (400 + q1) (by omega)]
    exact h6
  refine ⟨fun r hr => (setsA_r hr).trans ((g1 r hr).trans (h1 r hr)), tbI_sets g2 (by omega) (by omega) (by omega) (Or.inr (Or.inl ⟨k2, k6, 400 + q1, 400 + q2, rfl, by omega, by omega, rfl, by omega, by omega, by omega⟩)) ⟨fun e => absurd e (by omega), fun e => absurd e (by omega), fun _ _ => rfl⟩, fun r x hx => (setsA_o (by omega)).trans ((g3 r x (by omega)).trans (h3 r x hx)), by omega, by omega, ?_⟩
  rw [szN_new (z := q2 + 1 + 1 - q) ?_ (by omega)]
  rw [rdv_nI (by omega), rdv_nI (by omega), (rN_sz (g2 (400 + q1) (by omega) (by omega))).2.2, (rN_sz (g2 (400 + q2) (by omega) (by omega))).2.2, e1, g6, show Int32.ofInt 1 = nI 1 from rfl, nI_add, nI_add]
  congr 1
  omega
theorem e400 : (Int16.ofInt 400).toInt32 = nI 400 := by decide +kernel
set_option maxHeartbeats 1000000 in
set_option maxRecDepth 20000 in
theorem mMakes (f : Nat → zC) (o : Nat → Int32) (A : Nat → Nat → Int32) (J : Nat → Nat → Int64) {q : Nat} (hq : q < 50) {k v x y : Int32} (hx : 0 ≤ x → vp_in x 450) (hy : 0 ≤ y → vp_in y 450) : zK 1 zX7_makes [.ref 76, .int k, .int v, .int x, .int y] (wR f (upd o 29 (nI q)) A J) (fun r w' => r = some (.int (nI (400 + q))) ∧ w' = wR f (upd o 29 (nI (q + 1))) (setsA A (400 + q) k v x y) J) := by
  refine zK_of qX7_makes (by decide +kernel) rfl ?_
  iterate 9 (refine zv_step (bX7_makes 1) rfl rfl trivial ?_)
  refine zv_V5 (bX7_makes 1) rfl rfl rfl rfl rfl rfl rfl ⟨rfl, rfl, rfl⟩ ⟨by decide, by decide⟩ ⟨Nat.zero_le _, Nat.zero_le _⟩ (mSetsE f (upd o 29 (nI q)) A J (show (Int16.ofInt 400).toInt32 + nI q = nI (400 + q) by rw [e400, nI_add]) (by omega) hx hy) ?_
  rintro _ _ ⟨rfl, rfl⟩
  iterate 12 (refine zv_step (bX7_makes 1) rfl rfl trivial ?_)
  exact zv_iret (bX7_makes 1) rfl (Or.inl rfl) (Nat.zero_le _) (Nat.zero_le _) ⟨by show some (Value.int ((Int16.ofInt 400).toInt32 + (nI q + Int32.ofInt 1) - Int32.ofInt 1)) = _; rw [show nI q + Int32.ofInt 1 = nI (q + 1) from nI_1 q, e400, nI_add, show nI (400 + (q + 1)) - Int32.ofInt 1 = nI (400 + q) from nI_m1 (400 + q)], by rw [show nI (q + 1) = nI q + Int32.ofInt 1 from (nI_1 q).symm]; rfl⟩
end
section
theorem dgN_of {v t : Nat} (h1 : 1 ≤ t) (h4 : t ≤ 4) (hv : v < 10 ^ t) (hl : t = 1 ∨ 10 ^ (t - 1) ≤ v) : dgN (nI v) = t := by
  have h9 : v < 10 ^ 4 := Nat.lt_of_lt_of_le hv (Nat.pow_le_pow_right (n := 10) (i := t) (j := 4) (by decide) h4)
  have c10 : nI v < c8 10 ↔ v < 10 := nI_ltI (b := 10) (by omega) (by decide)
  have c100 : nI v < c8 100 ↔ v < 100 := nI_ltI (b := 100) (by omega) (by decide)
  have c1000 : nI v < (Int16.ofInt 1000).toInt32 ↔ v < 1000 := nI_ltI (b := 1000) (by omega) (by decide)
  unfold dgN
  simp only [c10, c100, c1000]
  match t, h1, h4 with
  | 1, _, _ => rw [if_pos (show v < 10 from hv)]
  | 2, _, _ => rw [if_neg (by have := hl.resolve_left (by decide); omega), if_pos (show v < 100 from hv)]
  | 3, _, _ => rw [if_neg (by have := hl.resolve_left (by decide); omega), if_neg (by have := hl.resolve_left (by decide); omega), if_pos (show v < 1000 from hv)]
  | 4, _, _ => rw [if_neg (by have := hl.resolve_left (by decide); omega), if_neg (by have := hl.resolve_left (by decide); omega), if_neg (by have := hl.resolve_left (by decide); omega)]
  | t + 5, _, h => exact absurd h (by omega)
theorem numAll_at {E : Nat → Nat} : ∀ (c k x : Nat), numAll E c k = true → k ≤ x → x < k + c → 10 ≤ E x ∧ E x ≤ 19
  | 0, k, x, _, h1, h2 => absurd h2 (by omega)
  | c + 1, k, x, h, h1, h2 => by
    have h' : ((decide (10 ≤ E k) && decide (E k ≤ 19)) && numAll E c (k + 1)) = true := h
    simp only [Bool.and_eq_true, decide_eq_true_eq] at h'
    by_cases e : x = k
    · subst e
      exact h'.1
    · exact numAll_at c (k + 1) x h'.2 (by omega) (by omega)
theorem isNumB_at {E : Nat → Nat} {a b : Nat} (h : isNumB E a b = true) : b - a ≤ 4 ∧ (E a ≠ 10 ∨ b - a = 1) ∧ ∀ x, a ≤ x → x < b → 10 ≤ E x ∧ E x ≤ 19 := by
  unfold isNumB at h
  simp only [Bool.and_eq_true, Bool.or_eq_true, decide_eq_true_eq] at h
  exact ⟨h.1.1, h.1.2, fun x h1 h2 => numAll_at (b - a) a x h.2 h1 (by omega)⟩
set_option maxHeartbeats 1000000 in
set_option maxRecDepth 20000 in
theorem takN (f : Nat → zC) (o : Nat → Int32) (A0 : Nat → Nat → Int32) (J : Nat → Nat → Int64) {A : Nat → Nat → Int32} {h : Nat} (hh : h ≤ 20) (hw : nnW h (A0 8)) (eE : A 8 = A0 8) {a b q p fu : Nat} {x7 x1 x2 : Int32} {x3 : Int64} (hb : b ≤ h) (hb4 : b - a ≤ 4) (hab : a < b) (hd : ∀ x, a ≤ x → x < b → 10 ≤ eW A0 x ∧ eW A0 x ≤ 19) {n0 : Nat} {Q : Option Value → zW → Prop} (kk : ∀ v : Nat, v < 10 ^ (b - a) → (eW A0 a ≠ 10 → 10 ^ (b - a - 1) ≤ v) → zV (zMo (2 * (fu + 1) + 3) zX7_takes) false n0 0 0 203 [(10, .int (nI v)), (9, .int (nI b)), (8, .int (nI a)), (7, .int x7), (5, .long (lN p)), (0, .ref 76), (1, .int x1), (2, .int x2), (3, .long x3)] [] (wR f (upd o 29 (nI q)) A J) Q) : ∀ (c t x v : Nat), x + c = b → a + t = x → t ≤ 4 → v < 10 ^ t → (1 ≤ t → eW A0 a ≠ 10 → 10 ^ (t - 1) ≤ v) → ∀ {x11 : Int32}, x11 = nI x → zV (zMo (2 * (fu + 1) + 3) zX7_takes) false n0 0 0 172 [(11, .int x11), (10, .int (nI v)), (9, .int (nI b)), (8, .int (nI a)), (7, .int x7), (5, .long (lN p)), (0, .ref 76), (1, .int x1), (2, .int x2), (3, .long x3)] [] (wR f (upd o 29 (nI q)) A J) Q := by
  intro c
  induction c with
  | zero =>
    intro t x v hc ht ht4 hv hl x11 e11
    subst e11
    iterate 3 (refine zv_step (bX7_takes (2 * (fu + 1) + 3)) rfl rfl trivial ?_)
    refine zv_ift (nI_le (by omega) (by omega)) ?_
    refine zv_locals (l := [(11, .int (nI x)), (10, .int (nI v)), (9, .int (nI b)), (8, .int (nI a)), (7, .int x7), (5, .long (lN p)), (0, .ref 76), (1, .int x1), (2, .int x2), (3, .long x3)]) (l' := [(10, .int (nI v)), (9, .int (nI b)), (8, .int (nI a)), (7, .int x7), (5, .long (lN p)), (0, .ref 76), (1, .int x1), (2, .int x2), (3, .long x3)]) ?_ (kk v (by rw [show b - a = t by omega]; exact hv) (fun h => by rw [show b - a = t by omega]; exact hl (by omega) h))
    simp
  | succ c ih2 =>
    intro t x v hc ht ht4 hv hl x11 e11
    subst e11
    have hp4 : 10 ^ t ≤ 10 ^ 4 := Nat.pow_le_pow_right (by decide) ht4
    iterate 3 (refine zv_step (bX7_takes (2 * (fu + 1) + 3)) rfl rfl trivial ?_)
    refine zv_iff (fun h => absurd ((nI_leI (by omega) (by omega)).mp h) (by omega)) ?_
    iterate 6 (refine zv_step (bX7_takes (2 * (fu + 1) + 3)) rfl rfl trivial ?_)
    refine zv_iale (bX7_takes (2 * (fu + 1) + 3)) rfl rfl (vp_in_nI (by omega) (by decide)) (show A 8 (nI x).toNatClampNeg = nI (eW A0 (x)) by rw [nI_clamp (by omega), eE]; exact (eW_of hw (by omega)).1) ?_
    iterate 6 (refine zv_step (bX7_takes (2 * (fu + 1) + 3)) rfl rfl trivial ?_)
    obtain ⟨d1, d2⟩ := hd x (by omega) (by omega)
    have hp1 : 10 ^ (t + 1) = 10 * 10 ^ t := by rw [Nat.pow_succ, Nat.mul_comm]
    have e9 : c8 10 * nI v + nI (eW A0 x) - c8 10 = nI (10 * v + eW A0 x - 10) := by
      rw [show c8 10 = nI 10 from rfl, nI_mul, nI_add, nI_sub (by omega)]
    refine zv_locals (l := [(11, .int (nI x + Int32.ofInt 1)), (10, .int (c8 10 * nI v + nI (eW A0 x) - c8 10)), (9, .int (nI b)), (8, .int (nI a)), (7, .int x7), (5, .long (lN p)), (0, .ref 76), (1, .int x1), (2, .int x2), (3, .long x3)]) (l' := [(11, .int (nI x + Int32.ofInt 1)), (10, .int (c8 10 * nI v + nI (eW A0 x) - c8 10)), (9, .int (nI b)), (8, .int (nI a)), (7, .int x7), (5, .long (lN p)), (0, .ref 76), (1, .int x1), (2, .int x2), (3, .long x3)]) (fun q h => h) ?_
    rw [e9]
    refine ih2 (t + 1) (x + 1) (10 * v + eW A0 x - 10) (by omega) (by omega) (by omega) (by omega) (fun _ h => ?_) (nI_1 x)
    cases t with
    | zero =>
      have : x = a := by omega
      subst this
      show 1 ≤ _
      omega
    | succ t =>
      have h7 := hl (by omega) h
      show 10 ^ (t + 1) ≤ _
      rw [show t + 1 - 1 = t by omega] at h7
      rw [Nat.pow_succ]
      omega
set_option maxHeartbeats 1000000 in
set_option maxRecDepth 20000 in
theorem tak2L (f : Nat → zC) (o : Nat → Int32) (A0 : Nat → Nat → Int32) (J : Nat → Nat → Int64) {h : Nat} (hh : h ≤ 20) (hw : nnW h (A0 8)) {s : Nat} (hJ : okJ h A0 s J) {fu : Nat} (ih : ∀ (i j p : Nat) (x y : Int32) (z : Int64), x = nI i → y = nI j → z = lN p → i < j → j ≤ h → j - i ≤ fu → p < lW J i j → ∀ (q : Nat) (A : Nat → Nat → Int32), (∀ r, 6 ≤ r → A r = A0 r) → tbI 400 (400 + q) A → q + (j - i) ≤ 44 → zK (2 * fu + 3) zX7_takes [.ref 76, .int x, .int y, .long z] (wR f (upd o 29 (nI q)) A J) (fun r w' => ∃ (q1 : Nat) (A' : Nat → Nat → Int32), r = some (.int (nI (400 + q1))) ∧ w' = (wR f (upd o 29 (nI (q1 + 1))) A' J) ∧ tkF A q A' q1 (j - i) ∧ Rd (eW A0) (mW A0 s (lW J)) (lW J) A' fu i j p (400 + q1))) {k a b p : Nat} (k2 : 2 ≤ k) (k6 : k ≤ 6) (hb : b ≤ h) (hf : b - a ≤ fu + 1) {A : Nat → Nat → Int32} (h6 : ∀ r, 6 ≤ r → A r = A0 r) {q : Nat} (hT : tbI 400 (400 + q) A) (hq : q + (b - a) ≤ 44) (hpp : p < pfS (eW A0) (lW J) k a b (b - 1 - (a + 1))) (hp9 : p ≤ cap) {x4 : Int64} {n0 : Nat} : ∀ (w c l : Nat), a + 1 + c + w = b - 1 → a + 1 + c ≤ 20 → p = pfS (eW A0) (lW J) k a b c + l → ∀ {x8 : Int32} {x6 : Int64}, x8 = nI (a + 1 + c) → x6 = lN l → zV (zMo (2 * fu + 4) zX7_takesTwo) false n0 0 0 9 [(8, .int x8), (6, .long x6), (0, .ref 76), (1, .int (nI k)), (2, .int (nI a)), (3, .int (nI b)), (4, .long x4)] [] (wR f (upd o 29 (nI q)) A J) (fun r w' => ∃ (q1 : Nat) (A' : Nat → Nat → Int32), r = some (.int (nI (400 + q1))) ∧ w' = (wR f (upd o 29 (nI (q1 + 1))) A' J) ∧ tkF A q A' q1 (b - a) ∧ A' 0 (400 + q1) = nI k ∧ Rk (eW A0) (lW J) A' (Rd (eW A0) (mW A0 s (lW J)) (lW J) A' fu) k a b p (400 + q1)) := by
  have eE : A 8 = A0 8 := h6 8 (by decide)
  intro w
  induction w with
  | zero =>
    intro c l hc hc2 hp x8 x6 e8 e6
    rw [show b - 1 - (a + 1) = c by omega] at hpp
    omega
  | succ w ih2 =>
    intro c l hc hc2 hp x8 x6 e8 e6
    subst e8 e6
    iterate 3 (refine zv_step (bX7_takesTwo (2 * fu + 4)) rfl rfl trivial ?_)
    refine zv_iale (bX7_takesTwo (2 * fu + 4)) rfl rfl (vp_in_nI (by omega) (by decide)) (show A 8 (nI (a + 1 + c)).toNatClampNeg = nI (eW A0 (a + 1 + c)) by rw [nI_clamp (by omega), eE]; exact (eW_of hw (by omega)).1) ?_
    iterate 4 (refine zv_step (bX7_takesTwo (2 * fu + 4)) rfl rfl trivial ?_)
    refine zv_ifb (fun h20 => ?_) (fun h20 => ?_)
    · have q20 : ¬ eW A0 (a + 1 + c) = 18 + k := fun e => h20 (by show nI (eW A0 (a + 1 + c)) = nI 18 + nI k; rw [nI_add, e])
      iterate 4 (refine zv_step (bX7_takesTwo (2 * fu + 4)) rfl rfl trivial ?_)
      refine zv_iale (bX7_takesTwo (2 * fu + 4)) rfl rfl (vp_in_nI (by omega) (by decide)) (show A 8 (nI (a + 1 + c)).toNatClampNeg = nI (eW A0 (a + 1 + c)) by rw [nI_clamp (by omega), eE]; exact (eW_of hw (by omega)).1) ?_
      iterate 4 (refine zv_step (bX7_takesTwo (2 * fu + 4)) rfl rfl trivial ?_)
      refine zv_ift (fun e => q20 ((nI_eq (by have := (eW_of hw (show a + 1 + c < h by omega)).2; omega) (by omega)).mp (show nI (eW A0 (a + 1 + c)) = nI (18 + k) by rw [← nI_add]; exact e))) ?_
      iterate 5 (refine zv_step (bX7_takesTwo (2 * fu + 4)) rfl rfl trivial ?_)
      have e9 : pfS (eW A0) (lW J) k a b (c + 1) = pfS (eW A0) (lW J) k a b c + 0 := by
        show _ + _ = _
        rw [if_neg q20]
      refine zv_locals (l := [(8, .int (nI (a + 1 + c) + Int32.ofInt 1)), (6, .long (lN l - lN 0)), (0, .ref 76), (1, .int (nI k)), (2, .int (nI a)), (3, .int (nI b)), (4, .long x4)]) (l' := [(8, .int (nI (a + 1 + c) + Int32.ofInt 1)), (6, .long (lN l - lN 0)), (0, .ref 76), (1, .int (nI k)), (2, .int (nI a)), (3, .int (nI b)), (4, .long x4)]) (fun q h => h) (ih2 (c + 1) (l - 0) (by omega) (by omega) (by rw [e9]; omega) (nI_1 (a + 1 + c)) (lN_sub (by omega)))
    · have q20 : eW A0 (a + 1 + c) = 18 + k := by
        have h9 : nI (eW A0 (a + 1 + c)) = nI 18 + nI k := Decidable.not_not.mp h20
        have := (eW_of hw (show a + 1 + c < h by omega)).2
        rwa [nI_add, nI_eq (by omega) (by omega)] at h9
      iterate 8 (refine zv_step (bX7_takesTwo (2 * fu + 4)) rfl rfl trivial ?_)
      refine zv_lale (bX7_takesTwo (2 * fu + 4)) rfl rfl (show vp_in (c8 21 * nI a + nI (a + 1 + c)) 441 by rw [ix21]; exact vp_in_nI (by omega) (by decide)) (show J 1 (c8 21 * nI a + nI (a + 1 + c)).toNatClampNeg = lN (lW J (a) (a + 1 + c)) by rw [ix21, nI_clamp (by omega)]; exact (okS_l (hJ (a) (a + 1 + c) (by omega) (by omega))).2.2) ?_
      iterate 9 (refine zv_step (bX7_takesTwo (2 * fu + 4)) rfl rfl trivial ?_)
      refine zv_lale (bX7_takesTwo (2 * fu + 4)) rfl rfl (show vp_in (c8 21 * (nI (a + 1 + c) + Int32.ofInt 1) + nI b) 441 by rw [show nI (a + 1 + c) + Int32.ofInt 1 = nI (a + 1 + c + 1) from nI_1 _, ix21]; exact vp_in_nI (by omega) (by decide)) (show J 1 (c8 21 * (nI (a + 1 + c) + Int32.ofInt 1) + nI b).toNatClampNeg = lN (lW J (a + 1 + c + 1) (b)) by rw [show nI (a + 1 + c) + Int32.ofInt 1 = nI (a + 1 + c + 1) from nI_1 _, ix21, nI_clamp (by omega)]; exact (okS_l (hJ (a + 1 + c + 1) (b) (by omega) (by omega))).2.2) ?_
      refine zv_S2 (bX7_takesTwo (2 * fu + 4)) rfl rfl rfl rfl ⟨rfl, rfl, rfl⟩ ⟨by show 0 + 1 ≤ 2 * fu + 4; omega, by show 8 + (4 + 11) + 64 * (0) ≤ 64 * (2 * fu + 4); omega⟩ ⟨Nat.zero_le _, Nat.zero_le _⟩ (mMul _ (okS_l (hJ a (a + 1 + c) (by omega) (by omega))).2.1 (okS_l (hJ (a + 1 + c + 1) b (by omega) (by omega))).2.1) ?_
      rintro _ _ ⟨rfl, rfl⟩
      iterate 2 (refine zv_step (bX7_takesTwo (2 * fu + 4)) rfl rfl trivial ?_)
      refine zv_ifb (fun h55 => ?_) (fun h55 => ?_)
      · have q55 : l < (tmW (lW J a (a + 1 + c)) (lW J (a + 1 + c + 1) b)) := by
          have h9 : lN l < lN (tmW (lW J a (a + 1 + c)) (lW J (a + 1 + c + 1) b)) := (lg_cmp_lt _ _).mp h55
          have := (tmW_le (lW J a (a + 1 + c)) (lW J (a + 1 + c + 1) b)).1
          rwa [lN_ltJ (by unfold cap at *; omega) (by unfold cap at *; omega)] at h9
        obtain ⟨lb0, lb1⟩ : 0 < lW J (a + 1 + c + 1) b ∧ l / lW J (a + 1 + c + 1) b < lW J a (a + 1 + c) := by
          have ht := (tmW_le (lW J a (a + 1 + c)) (lW J (a + 1 + c + 1) b)).2
          have h0 : 0 < lW J (a + 1 + c + 1) b := by
            rcases Nat.eq_zero_or_pos (lW J (a + 1 + c + 1) b) with e | e
            · rw [e, Nat.mul_zero] at ht
              rw [e] at q55
              omega
            · exact e
          exact ⟨h0, (Nat.div_lt_iff_lt_mul h0).mpr (by omega)⟩
        have lb2 : l % lW J (a + 1 + c + 1) b < lW J (a + 1 + c + 1) b := Nat.mod_lt _ lb0
        have capb := (okS_l (hJ (a + 1 + c + 1) b (by omega) (by omega))).2.1
        have hl9 : l < 2 ^ 62 := by have := (tmW_le (lW J a (a + 1 + c)) (lW J (a + 1 + c + 1) b)).1; unfold cap at *; omega
        iterate 9 (refine zv_step (bX7_takesTwo (2 * fu + 4)) rfl rfl trivial ?_)
        refine zv_lale (bX7_takesTwo (2 * fu + 4)) rfl rfl (show vp_in (c8 21 * (nI (a + 1 + c) + Int32.ofInt 1) + nI b) 441 by rw [show nI (a + 1 + c) + Int32.ofInt 1 = nI (a + 1 + c + 1) from nI_1 _, ix21]; exact vp_in_nI (by omega) (by decide)) (show J 1 (c8 21 * (nI (a + 1 + c) + Int32.ofInt 1) + nI b).toNatClampNeg = lN (lW J (a + 1 + c + 1) (b)) by rw [show nI (a + 1 + c) + Int32.ofInt 1 = nI (a + 1 + c + 1) from nI_1 _, ix21, nI_clamp (by omega)]; exact (okS_l (hJ (a + 1 + c + 1) (b) (by omega) (by omega))).2.2) ?_
        iterate 6 (refine zv_step (bX7_takesTwo (2 * fu + 4)) rfl rfl trivial ?_)
        refine zv_step (bX7_takesTwo (2 * fu + 4)) rfl rfl (fun e => absurd ((lN_eqJ (b := 0) (by unfold cap at capb; omega) (by decide)).mp e) (by omega)) ?_
        refine zv_V3 (bX7_takesTwo (2 * fu + 4)) rfl rfl rfl rfl rfl rfl rfl ⟨rfl, rfl, rfl⟩ ⟨by show 2 * fu + 3 + 1 ≤ 2 * fu + 4; omega, by show 8 + (12 + 11) + 64 * (2 * fu + 3) ≤ 64 * (2 * fu + 4); omega⟩ ⟨Nat.zero_le _, Nat.zero_le _⟩ (ih a (a + 1 + c) (l / lW J (a + 1 + c + 1) b) _ _ _ rfl rfl (lN_divJ hl9 (by unfold cap at capb; omega)) (by omega) (by omega) (by omega) lb1 q A h6 hT (by omega)) ?_
        rintro _ _ ⟨q1, A1, rfl, rfl, k1, r1⟩
        iterate 12 (refine zv_step (bX7_takesTwo (2 * fu + 4)) rfl rfl trivial ?_)
        refine zv_step (bX7_takesTwo (2 * fu + 4)) rfl rfl (fun e => absurd ((lN_eqJ (b := 0) (by unfold cap at capb; omega) (by decide)).mp e) (by omega)) ?_
        refine zv_V3 (bX7_takesTwo (2 * fu + 4)) rfl rfl rfl rfl rfl rfl rfl ⟨rfl, rfl, rfl⟩ ⟨by show 2 * fu + 3 + 1 ≤ 2 * fu + 4; omega, by show 8 + (12 + 11) + 64 * (2 * fu + 3) ≤ 64 * (2 * fu + 4); omega⟩ ⟨Nat.zero_le _, Nat.zero_le _⟩ (ih (a + 1 + c + 1) b (l % lW J (a + 1 + c + 1) b) _ _ _ (nI_1 _) rfl (show lN l - lN l / lN (lW J (a + 1 + c + 1) b) * lN (lW J (a + 1 + c + 1) b) = lN (l % lW J (a + 1 + c + 1) b) by rw [lN_divJ hl9 (by unfold cap at capb; omega), lN_mul, lN_sub (Nat.div_mul_le_self _ _)]; congr 1; have := Nat.div_add_mod l (lW J (a + 1 + c + 1) b); rw [Nat.mul_comm] at this; omega) (by omega) (by omega) (by omega) lb2 (q1 + 1) A1 (fun r hr => (k1.1 r hr).trans (h6 r hr)) k1.2.1 (by have := k1.2.2.2.2.1; omega)) ?_
        rintro _ _ ⟨q2, A2, rfl, rfl, k9, r2⟩
        refine zv_V4 (bX7_takesTwo (2 * fu + 4)) rfl rfl rfl rfl rfl rfl rfl ⟨rfl, rfl, rfl⟩ ⟨by show 1 + 1 ≤ 2 * fu + 4; omega, by show 8 + (5 + 11) + 64 * (1) ≤ 64 * (2 * fu + 4); omega⟩ ⟨Nat.zero_le _, Nat.zero_le _⟩ (mMakes f o A2 J (q := q2 + 1) (by have := k1.2.2.2.2.1; have := k9.2.2.2.2.1; have := k9.2.2.2.1; omega) (fun _ => vp_in_nI (by have := k9.2.2.2.2.1; have := k1.2.2.2.2.1; have := k9.2.2.2.1; omega) (by decide)) (fun _ => vp_in_nI (by have := k1.2.2.2.2.1; have := k9.2.2.2.2.1; have := k9.2.2.2.1; omega) (by decide))) ?_
        rintro _ _ ⟨rfl, rfl⟩
        have l1 := k1.2.2.2.2.1
        have l2 := k9.2.2.2.2.1
        have m1 := k1.2.2.2.1
        have m9 := k9.2.2.2.1
        have hK := tkF_bi k1 k9 (len := b - a) (k := k) (by omega) (by omega) (by omega) k2 k6
        refine zv_iret (bX7_takesTwo (2 * fu + 4)) rfl (Or.inl rfl) (Nat.zero_le _) (Nat.zero_le _) ⟨q2 + 1, _, rfl, rfl, hK, upd_self _ _ _, Or.inr (Or.inr (Or.inr (Or.inr (Or.inr ⟨k2, k6, c, l, 400 + q1, 400 + q2, by omega, q20, hp, q55, by omega, by omega, by omega, by omega, upd_self _ _ _, upd_self _ _ _, ?_, ?_⟩))))⟩
        · exact Rd_fr fu _ _ _ _ (by omega) (fun r hr x x1 x2 => (setsA_o (by omega)).trans (k9.2.2.1 r x (by omega))) r1
        · exact Rd_fr fu _ _ _ _ (by omega) (fun r hr x x1 x2 => setsA_o (by omega)) r2
      · have q55 : ¬ l < (tmW (lW J a (a + 1 + c)) (lW J (a + 1 + c + 1) b)) := fun e => h55 ((lg_cmp_lt _ _).mpr (by
          have := (tmW_le (lW J a (a + 1 + c)) (lW J (a + 1 + c + 1) b)).1
          rwa [lN_ltJ (by unfold cap at *; omega) (by unfold cap at *; omega)]))
        iterate 4 (refine zv_step (bX7_takesTwo (2 * fu + 4)) rfl rfl trivial ?_)
        refine zv_iale (bX7_takesTwo (2 * fu + 4)) rfl rfl (vp_in_nI (by omega) (by decide)) (show A 8 (nI (a + 1 + c)).toNatClampNeg = nI (eW A0 (a + 1 + c)) by rw [nI_clamp (by omega), eE]; exact (eW_of hw (by omega)).1) ?_
        iterate 4 (refine zv_step (bX7_takesTwo (2 * fu + 4)) rfl rfl trivial ?_)
        refine zv_iff (fun h => h (show nI (eW A0 (a + 1 + c)) = nI 18 + nI k by rw [nI_add, q20])) ?_
        iterate 7 (refine zv_step (bX7_takesTwo (2 * fu + 4)) rfl rfl trivial ?_)
        refine zv_lale (bX7_takesTwo (2 * fu + 4)) rfl rfl (show vp_in (c8 21 * nI a + nI (a + 1 + c)) 441 by rw [ix21]; exact vp_in_nI (by omega) (by decide)) (show J 1 (c8 21 * nI a + nI (a + 1 + c)).toNatClampNeg = lN (lW J (a) (a + 1 + c)) by rw [ix21, nI_clamp (by omega)]; exact (okS_l (hJ (a) (a + 1 + c) (by omega) (by omega))).2.2) ?_
        iterate 9 (refine zv_step (bX7_takesTwo (2 * fu + 4)) rfl rfl trivial ?_)
        refine zv_lale (bX7_takesTwo (2 * fu + 4)) rfl rfl (show vp_in (c8 21 * (nI (a + 1 + c) + Int32.ofInt 1) + nI b) 441 by rw [show nI (a + 1 + c) + Int32.ofInt 1 = nI (a + 1 + c + 1) from nI_1 _, ix21]; exact vp_in_nI (by omega) (by decide)) (show J 1 (c8 21 * (nI (a + 1 + c) + Int32.ofInt 1) + nI b).toNatClampNeg = lN (lW J (a + 1 + c + 1) (b)) by rw [show nI (a + 1 + c) + Int32.ofInt 1 = nI (a + 1 + c + 1) from nI_1 _, ix21, nI_clamp (by omega)]; exact (okS_l (hJ (a + 1 + c + 1) (b) (by omega) (by omega))).2.2) ?_
        refine zv_S2 (bX7_takesTwo (2 * fu + 4)) rfl rfl rfl rfl ⟨rfl, rfl, rfl⟩ ⟨by show 0 + 1 ≤ 2 * fu + 4; omega, by show 8 + (4 + 11) + 64 * (0) ≤ 64 * (2 * fu + 4); omega⟩ ⟨Nat.zero_le _, Nat.zero_le _⟩ (mMul _ (okS_l (hJ a (a + 1 + c) (by omega) (by omega))).2.1 (okS_l (hJ (a + 1 + c + 1) b (by omega) (by omega))).2.1) ?_
        rintro _ _ ⟨rfl, rfl⟩
        iterate 5 (refine zv_step (bX7_takesTwo (2 * fu + 4)) rfl rfl trivial ?_)
        have e9 : pfS (eW A0) (lW J) k a b (c + 1) = pfS (eW A0) (lW J) k a b c + (tmW (lW J a (a + 1 + c)) (lW J (a + 1 + c + 1) b)) := by
          show _ + _ = _
          rw [if_pos q20]
        refine zv_locals (l := [(8, .int (nI (a + 1 + c) + Int32.ofInt 1)), (6, .long (lN l - lN (tmW (lW J a (a + 1 + c)) (lW J (a + 1 + c + 1) b)))), (0, .ref 76), (1, .int (nI k)), (2, .int (nI a)), (3, .int (nI b)), (4, .long x4)]) (l' := [(8, .int (nI (a + 1 + c) + Int32.ofInt 1)), (6, .long (lN l - lN (tmW (lW J a (a + 1 + c)) (lW J (a + 1 + c + 1) b)))), (0, .ref 76), (1, .int (nI k)), (2, .int (nI a)), (3, .int (nI b)), (4, .long x4)]) (fun q h => h) (ih2 (c + 1) (l - (tmW (lW J a (a + 1 + c)) (lW J (a + 1 + c + 1) b))) (by omega) (by omega) (by rw [e9]; omega) (nI_1 (a + 1 + c)) (lN_sub (by omega)))
set_option maxHeartbeats 1000000 in
set_option maxRecDepth 20000 in
theorem mTakes2 (f : Nat → zC) (o : Nat → Int32) (A0 : Nat → Nat → Int32) (J : Nat → Nat → Int64) {h : Nat} (hh : h ≤ 20) (hw : nnW h (A0 8)) {s : Nat} (hJ : okJ h A0 s J) {fu : Nat} (ih : ∀ (i j p : Nat) (x y : Int32) (z : Int64), x = nI i → y = nI j → z = lN p → i < j → j ≤ h → j - i ≤ fu → p < lW J i j → ∀ (q : Nat) (A : Nat → Nat → Int32), (∀ r, 6 ≤ r → A r = A0 r) → tbI 400 (400 + q) A → q + (j - i) ≤ 44 → zK (2 * fu + 3) zX7_takes [.ref 76, .int x, .int y, .long z] (wR f (upd o 29 (nI q)) A J) (fun r w' => ∃ (q1 : Nat) (A' : Nat → Nat → Int32), r = some (.int (nI (400 + q1))) ∧ w' = (wR f (upd o 29 (nI (q1 + 1))) A' J) ∧ tkF A q A' q1 (j - i) ∧ Rd (eW A0) (mW A0 s (lW J)) (lW J) A' fu i j p (400 + q1))) {k a b p : Nat} (k2 : 2 ≤ k) (k6 : k ≤ 6) (hab : a < b) (hb : b ≤ h) (hf : b - a ≤ fu + 1) {A : Nat → Nat → Int32} (h6 : ∀ r, 6 ≤ r → A r = A0 r) {q : Nat} (hT : tbI 400 (400 + q) A) (hq : q + (b - a) ≤ 44) (hpw : p < wi (eW A0) (A0 6) (lW J) k a b) (hp9 : p ≤ cap) {x1 x2 x3 : Int32} {z : Int64} (e1 : x1 = nI k) (e2 : x2 = nI a) (e3 : x3 = nI b) (ez : z = lN p) : zK (2 * fu + 4) zX7_takesTwo [.ref 76, .int x1, .int x2, .int x3, .long z] (wR f (upd o 29 (nI q)) A J) (fun r w' => ∃ (q1 : Nat) (A' : Nat → Nat → Int32), r = some (.int (nI (400 + q1))) ∧ w' = (wR f (upd o 29 (nI (q1 + 1))) A' J) ∧ tkF A q A' q1 (b - a) ∧ A' 0 (400 + q1) = nI k ∧ Rk (eW A0) (lW J) A' (Rd (eW A0) (mW A0 s (lW J)) (lW J) A' fu) k a b p (400 + q1)) := by
  subst e1 e2 e3 ez
  have hpp : p < pfS (eW A0) (lW J) k a b (b - 1 - (a + 1)) := by
    rw [wi_2 hab k2 k6] at hpw
    have := wiP_pf (E := eW A0) (L := lW J) (k := k) (a := a) (b := b) (b - 1 - (a + 1)) 0 0 (Nat.zero_le _)
    rw [Nat.zero_add] at this
    exact Nat.lt_of_lt_of_le hpw this
  have hab2 : a + 2 < b := by
    rcases Nat.lt_or_ge (a + 2) b with e | e
    · exact e
    · rw [show b - 1 - (a + 1) = 0 by omega] at hpp
      exact absurd hpp (by show ¬ p < 0; omega)
  refine zK_of qX7_takesTwo (by decide +kernel) rfl ?_
  iterate 6 (refine zv_step (bX7_takesTwo (2 * fu + 4)) rfl rfl trivial ?_)
  refine zv_locals (l := [(8, .int (nI a + Int32.ofInt 1)), (6, .long (lN p)), (0, .ref 76), (1, .int (nI k)), (2, .int (nI a)), (3, .int (nI b)), (4, .long (lN p))]) (l' := [(8, .int (nI a + Int32.ofInt 1)), (6, .long (lN p)), (0, .ref 76), (1, .int (nI k)), (2, .int (nI a)), (3, .int (nI b)), (4, .long (lN p))]) (fun q h => h) (tak2L f o A0 J hh hw hJ ih k2 k6 hb hf h6 hT hq hpp hp9 (b - 1 - (a + 1)) 0 p (by omega) (by omega) (by show p = 0 + p; omega) (nI_1 a) rfl)
set_option maxHeartbeats 1000000 in
set_option maxRecDepth 20000 in
theorem takK0 (f : Nat → zC) (o : Nat → Int32) (A0 : Nat → Nat → Int32) (J : Nat → Nat → Int64) {h : Nat} (hh : h ≤ 20) (hw : nnW h (A0 8)) {s : Nat} (hJ : okJ h A0 s J) {fu : Nat} (ih : ∀ (i j p : Nat) (x y : Int32) (z : Int64), x = nI i → y = nI j → z = lN p → i < j → j ≤ h → j - i ≤ fu → p < lW J i j → ∀ (q : Nat) (A : Nat → Nat → Int32), (∀ r, 6 ≤ r → A r = A0 r) → tbI 400 (400 + q) A → q + (j - i) ≤ 44 → zK (2 * fu + 3) zX7_takes [.ref 76, .int x, .int y, .long z] (wR f (upd o 29 (nI q)) A J) (fun r w' => ∃ (q1 : Nat) (A' : Nat → Nat → Int32), r = some (.int (nI (400 + q1))) ∧ w' = (wR f (upd o 29 (nI (q1 + 1))) A' J) ∧ tkF A q A' q1 (j - i) ∧ Rd (eW A0) (mW A0 s (lW J)) (lW J) A' fu i j p (400 + q1))) {a b p : Nat} (hb : b ≤ h) (hf : b - a ≤ fu + 1) {A : Nat → Nat → Int32} (h6 : ∀ r, 6 ≤ r → A r = A0 r) {q : Nat} (hT : tbI 400 (400 + q) A) (hq : q + (b - a) ≤ 44) (hp9 : p ≤ cap) {x7 x1 x2 : Int32} {x3 : Int64} {n0 : Nat} (hp : p < wi (eW A0) (A0 6) (lW J) 0 a b) : zV (zMo (2 * (fu + 1) + 3) zX7_takes) false n0 0 0 148 [(9, .int (nI b)), (8, .int (nI a)), (7, .int x7), (5, .long (lN p)), (0, .ref 76), (1, .int x1), (2, .int x2), (3, .long x3)] [] (wR f (upd o 29 (nI q)) A J) (fun r w' => ∃ (q1 : Nat) (A' : Nat → Nat → Int32), r = some (.int (nI (400 + q1))) ∧ w' = (wR f (upd o 29 (nI (q1 + 1))) A' J) ∧ tkF A q A' q1 (b - a) ∧ A' 0 (400 + q1) = nI 0 ∧ Rk (eW A0) (lW J) A' (Rd (eW A0) (mW A0 s (lW J)) (lW J) A' fu) 0 a b p (400 + q1)) := by
  have eE : A 8 = A0 8 := h6 8 (by decide)
  have hab : a < b := by
    rcases Nat.lt_or_ge a b with e | e
    · exact e
    · rw [wi_n e] at hp
      omega
  rw [wi_0 hab] at hp
  split at hp
  case isFalse => omega
  rename_i hc
  iterate 5 (refine zv_step (bX7_takes (2 * (fu + 1) + 3)) rfl rfl trivial ?_)
  refine zv_iale (bX7_takes (2 * (fu + 1) + 3)) rfl rfl (vp_in_nI (by omega) (by decide)) (show A 8 (nI a).toNatClampNeg = nI (eW A0 (a)) by rw [nI_clamp (by omega), eE]; exact (eW_of hw (by omega)).1) ?_
  iterate 2 (refine zv_step (bX7_takes (2 * (fu + 1) + 3)) rfl rfl trivial ?_)
  refine zv_V4 (bX7_takes (2 * (fu + 1) + 3)) rfl rfl rfl rfl rfl rfl rfl ⟨rfl, rfl, rfl⟩ ⟨by show 1 + 1 ≤ 2 * (fu + 1) + 3; omega, by show 8 + (5 + 11) + 64 * (1) ≤ 64 * (2 * (fu + 1) + 3); omega⟩ ⟨Nat.zero_le _, Nat.zero_le _⟩ (mMakes f o A J (q := q) (by omega) vpm2 vpm2) ?_
  rintro _ _ ⟨rfl, rfl⟩
  refine zv_iret (bX7_takes (2 * (fu + 1) + 3)) rfl (Or.inl rfl) (Nat.zero_le _) (Nat.zero_le _) ⟨q, _, rfl, rfl, tkF_lf hT (by omega) (k := 0) (by decide) ⟨fun _ => ⟨eW A0 a, by omega, rfl⟩, fun h => absurd h (by decide)⟩ (by omega), upd_self _ _ _, Or.inl ⟨rfl, upd_self _ _ _, upd_self _ _ _⟩⟩
set_option maxHeartbeats 1000000 in
set_option maxRecDepth 20000 in
theorem takK1 (f : Nat → zC) (o : Nat → Int32) (A0 : Nat → Nat → Int32) (J : Nat → Nat → Int64) {h : Nat} (hh : h ≤ 20) (hw : nnW h (A0 8)) {s : Nat} (hJ : okJ h A0 s J) {fu : Nat} (ih : ∀ (i j p : Nat) (x y : Int32) (z : Int64), x = nI i → y = nI j → z = lN p → i < j → j ≤ h → j - i ≤ fu → p < lW J i j → ∀ (q : Nat) (A : Nat → Nat → Int32), (∀ r, 6 ≤ r → A r = A0 r) → tbI 400 (400 + q) A → q + (j - i) ≤ 44 → zK (2 * fu + 3) zX7_takes [.ref 76, .int x, .int y, .long z] (wR f (upd o 29 (nI q)) A J) (fun r w' => ∃ (q1 : Nat) (A' : Nat → Nat → Int32), r = some (.int (nI (400 + q1))) ∧ w' = (wR f (upd o 29 (nI (q1 + 1))) A' J) ∧ tkF A q A' q1 (j - i) ∧ Rd (eW A0) (mW A0 s (lW J)) (lW J) A' fu i j p (400 + q1))) {a b p : Nat} (hb : b ≤ h) (hf : b - a ≤ fu + 1) {A : Nat → Nat → Int32} (h6 : ∀ r, 6 ≤ r → A r = A0 r) {q : Nat} (hT : tbI 400 (400 + q) A) (hq : q + (b - a) ≤ 44) (hp9 : p ≤ cap) {x7 x1 x2 : Int32} {x3 : Int64} {n0 : Nat} (hp : p < wi (eW A0) (A0 6) (lW J) 1 a b) : zV (zMo (2 * (fu + 1) + 3) zX7_takes) false n0 0 0 165 [(9, .int (nI b)), (8, .int (nI a)), (7, .int x7), (5, .long (lN p)), (0, .ref 76), (1, .int x1), (2, .int x2), (3, .long x3)] [] (wR f (upd o 29 (nI q)) A J) (fun r w' => ∃ (q1 : Nat) (A' : Nat → Nat → Int32), r = some (.int (nI (400 + q1))) ∧ w' = (wR f (upd o 29 (nI (q1 + 1))) A' J) ∧ tkF A q A' q1 (b - a) ∧ A' 0 (400 + q1) = nI 1 ∧ Rk (eW A0) (lW J) A' (Rd (eW A0) (mW A0 s (lW J)) (lW J) A' fu) 1 a b p (400 + q1)) := by
  have eE : A 8 = A0 8 := h6 8 (by decide)
  have hab : a < b := by
    rcases Nat.lt_or_ge a b with e | e
    · exact e
    · rw [wi_n e] at hp
      omega
  rw [wi_1 hab] at hp
  split at hp
  case isFalse => omega
  rename_i hc
  iterate 4 (refine zv_step (bX7_takes (2 * (fu + 1) + 3)) rfl rfl trivial ?_)
  have hn := isNumB_at hc
  refine zv_locals (l := [(11, .int (nI a)), (10, .int (Int32.ofInt 0)), (9, .int (nI b)), (8, .int (nI a)), (7, .int x7), (5, .long (lN p)), (0, .ref 76), (1, .int x1), (2, .int x2), (3, .long x3)]) (l' := [(11, .int (nI a)), (10, .int (Int32.ofInt 0)), (9, .int (nI b)), (8, .int (nI a)), (7, .int x7), (5, .long (lN p)), (0, .ref 76), (1, .int x1), (2, .int x2), (3, .long x3)]) (fun q h => h) (takN f o A0 J hh hw eE hb hn.1 hab hn.2.2 (fun v hv hl => ?_) (b - a) 0 a 0 (by omega) rfl (by decide) (by decide) (fun h => absurd h (by decide)) rfl)
  iterate 5 (refine zv_step (bX7_takes (2 * (fu + 1) + 3)) rfl rfl trivial ?_)
  refine zv_V4 (bX7_takes (2 * (fu + 1) + 3)) rfl rfl rfl rfl rfl rfl rfl ⟨rfl, rfl, rfl⟩ ⟨by show 1 + 1 ≤ 2 * (fu + 1) + 3; omega, by show 8 + (5 + 11) + 64 * (1) ≤ 64 * (2 * (fu + 1) + 3); omega⟩ ⟨Nat.zero_le _, Nat.zero_le _⟩ (mMakes f o A J (q := q) (by omega) vpm2 vpm2) ?_
  rintro _ _ ⟨rfl, rfl⟩
  refine zv_iret (bX7_takes (2 * (fu + 1) + 3)) rfl (Or.inl rfl) (Nat.zero_le _) (Nat.zero_le _) ⟨q, _, rfl, rfl, tkF_lf hT (by omega) (k := 1) (by decide) ⟨fun h => absurd h (by decide), fun _ => ⟨v, by have : 10 ^ (b - a) ≤ 10 ^ 4 := Nat.pow_le_pow_right (by decide) hn.1; omega, rfl⟩⟩ (by omega), upd_self _ _ _, Or.inr (Or.inl ⟨rfl, upd_self _ _ _, upd_self _ _ _, ?_⟩)⟩
  show dgN (upd (A 1) (400 + q) (nI v) (400 + q)) = b - a
  rw [upd_self]
  exact dgN_of (by omega) hn.1 hv (hn.2.1.symm.imp id hl)
set_option maxHeartbeats 1000000 in
set_option maxRecDepth 20000 in
theorem takK7 (f : Nat → zC) (o : Nat → Int32) (A0 : Nat → Nat → Int32) (J : Nat → Nat → Int64) {h : Nat} (hh : h ≤ 20) (hw : nnW h (A0 8)) {s : Nat} (hJ : okJ h A0 s J) {fu : Nat} (ih : ∀ (i j p : Nat) (x y : Int32) (z : Int64), x = nI i → y = nI j → z = lN p → i < j → j ≤ h → j - i ≤ fu → p < lW J i j → ∀ (q : Nat) (A : Nat → Nat → Int32), (∀ r, 6 ≤ r → A r = A0 r) → tbI 400 (400 + q) A → q + (j - i) ≤ 44 → zK (2 * fu + 3) zX7_takes [.ref 76, .int x, .int y, .long z] (wR f (upd o 29 (nI q)) A J) (fun r w' => ∃ (q1 : Nat) (A' : Nat → Nat → Int32), r = some (.int (nI (400 + q1))) ∧ w' = (wR f (upd o 29 (nI (q1 + 1))) A' J) ∧ tkF A q A' q1 (j - i) ∧ Rd (eW A0) (mW A0 s (lW J)) (lW J) A' fu i j p (400 + q1))) {a b p : Nat} (hb : b ≤ h) (hf : b - a ≤ fu + 1) {A : Nat → Nat → Int32} (h6 : ∀ r, 6 ≤ r → A r = A0 r) {q : Nat} (hT : tbI 400 (400 + q) A) (hq : q + (b - a) ≤ 44) (hp9 : p ≤ cap) {x7 x1 x2 : Int32} {x3 : Int64} {n0 : Nat} (hp : p < wi (eW A0) (A0 6) (lW J) 7 a b) : zV (zMo (2 * (fu + 1) + 3) zX7_takes) false n0 0 0 215 [(9, .int (nI b)), (8, .int (nI a)), (7, .int x7), (5, .long (lN p)), (0, .ref 76), (1, .int x1), (2, .int x2), (3, .long x3)] [] (wR f (upd o 29 (nI q)) A J) (fun r w' => ∃ (q1 : Nat) (A' : Nat → Nat → Int32), r = some (.int (nI (400 + q1))) ∧ w' = (wR f (upd o 29 (nI (q1 + 1))) A' J) ∧ tkF A q A' q1 (b - a) ∧ A' 0 (400 + q1) = nI 7 ∧ Rk (eW A0) (lW J) A' (Rd (eW A0) (mW A0 s (lW J)) (lW J) A' fu) 7 a b p (400 + q1)) := by
  have eE : A 8 = A0 8 := h6 8 (by decide)
  have hab : a < b := by
    rcases Nat.lt_or_ge a b with e | e
    · exact e
    · rw [wi_n e] at hp
      omega
  rw [wi_7 hab] at hp
  split at hp
  case isFalse => omega
  rename_i hc
  iterate 9 (refine zv_step (bX7_takes (2 * (fu + 1) + 3)) rfl rfl trivial ?_)
  refine zv_V3 (bX7_takes (2 * (fu + 1) + 3)) rfl rfl rfl rfl rfl rfl rfl ⟨rfl, rfl, rfl⟩ ⟨by show 2 * fu + 3 + 1 ≤ 2 * (fu + 1) + 3; omega, by show 8 + (12 + 11) + 64 * (2 * fu + 3) ≤ 64 * (2 * (fu + 1) + 3); omega⟩ ⟨Nat.zero_le _, Nat.zero_le _⟩ (ih (a + 1) (b) p _ _ _ (nI_1 a) rfl rfl (by omega) (by omega) (by omega) hp q A h6 hT (by omega)) ?_
  rintro _ _ ⟨q1, A1, rfl, rfl, k1, r1⟩
  have l1 := k1.2.2.2.2.1
  have m1 := k1.2.2.2.1
  iterate 1 (refine zv_step (bX7_takes (2 * (fu + 1) + 3)) rfl rfl trivial ?_)
  refine zv_V4 (bX7_takes (2 * (fu + 1) + 3)) rfl rfl rfl rfl rfl rfl rfl ⟨rfl, rfl, rfl⟩ ⟨by show 1 + 1 ≤ 2 * (fu + 1) + 3; omega, by show 8 + (5 + 11) + 64 * (1) ≤ 64 * (2 * (fu + 1) + 3); omega⟩ ⟨Nat.zero_le _, Nat.zero_le _⟩ (mMakes f o A1 J (q := q1 + 1) (by omega) (fun _ => vp_in_nI (by omega) (by decide)) vpm2) ?_
  rintro _ _ ⟨rfl, rfl⟩
  refine zv_iret (bX7_takes (2 * (fu + 1) + 3)) rfl (Or.inl rfl) (Nat.zero_le _) (Nat.zero_le _) ⟨q1 + 1, _, rfl, rfl, tkF_un k1 (by omega) (by omega) (by omega) (k := 7) (by decide) (by decide) ⟨fun h => absurd h (by decide), fun _ => rfl⟩, upd_self _ _ _, Or.inr (Or.inr (Or.inl ⟨rfl, 400 + q1, by omega, by omega, upd_self _ _ _, upd_self _ _ _, ?_⟩))⟩
  exact Rd_fr fu _ _ _ _ (by omega) (fun r hr x x1 x2 => setsA_o (by omega)) r1
set_option maxHeartbeats 1000000 in
set_option maxRecDepth 20000 in
theorem takK8 (f : Nat → zC) (o : Nat → Int32) (A0 : Nat → Nat → Int32) (J : Nat → Nat → Int64) {h : Nat} (hh : h ≤ 20) (hw : nnW h (A0 8)) {s : Nat} (hJ : okJ h A0 s J) {fu : Nat} (ih : ∀ (i j p : Nat) (x y : Int32) (z : Int64), x = nI i → y = nI j → z = lN p → i < j → j ≤ h → j - i ≤ fu → p < lW J i j → ∀ (q : Nat) (A : Nat → Nat → Int32), (∀ r, 6 ≤ r → A r = A0 r) → tbI 400 (400 + q) A → q + (j - i) ≤ 44 → zK (2 * fu + 3) zX7_takes [.ref 76, .int x, .int y, .long z] (wR f (upd o 29 (nI q)) A J) (fun r w' => ∃ (q1 : Nat) (A' : Nat → Nat → Int32), r = some (.int (nI (400 + q1))) ∧ w' = (wR f (upd o 29 (nI (q1 + 1))) A' J) ∧ tkF A q A' q1 (j - i) ∧ Rd (eW A0) (mW A0 s (lW J)) (lW J) A' fu i j p (400 + q1))) {a b p : Nat} (hb : b ≤ h) (hf : b - a ≤ fu + 1) {A : Nat → Nat → Int32} (h6 : ∀ r, 6 ≤ r → A r = A0 r) {q : Nat} (hT : tbI 400 (400 + q) A) (hq : q + (b - a) ≤ 44) (hp9 : p ≤ cap) {x7 x1 x2 : Int32} {x3 : Int64} {n0 : Nat} (hp : p < wi (eW A0) (A0 6) (lW J) 8 a b) : zV (zMo (2 * (fu + 1) + 3) zX7_takes) false n0 0 0 238 [(9, .int (nI b)), (8, .int (nI a)), (7, .int x7), (5, .long (lN p)), (0, .ref 76), (1, .int x1), (2, .int x2), (3, .long x3)] [] (wR f (upd o 29 (nI q)) A J) (fun r w' => ∃ (q1 : Nat) (A' : Nat → Nat → Int32), r = some (.int (nI (400 + q1))) ∧ w' = (wR f (upd o 29 (nI (q1 + 1))) A' J) ∧ tkF A q A' q1 (b - a) ∧ A' 0 (400 + q1) = nI 8 ∧ Rk (eW A0) (lW J) A' (Rd (eW A0) (mW A0 s (lW J)) (lW J) A' fu) 8 a b p (400 + q1)) := by
  have eE : A 8 = A0 8 := h6 8 (by decide)
  have hab : a < b := by
    rcases Nat.lt_or_ge a b with e | e
    · exact e
    · rw [wi_n e] at hp
      omega
  rw [wi_8 hab] at hp
  split at hp
  case isFalse => omega
  rename_i hc
  iterate 11 (refine zv_step (bX7_takes (2 * (fu + 1) + 3)) rfl rfl trivial ?_)
  refine zv_V3 (bX7_takes (2 * (fu + 1) + 3)) rfl rfl rfl rfl rfl rfl rfl ⟨rfl, rfl, rfl⟩ ⟨by show 2 * fu + 3 + 1 ≤ 2 * (fu + 1) + 3; omega, by show 8 + (12 + 11) + 64 * (2 * fu + 3) ≤ 64 * (2 * (fu + 1) + 3); omega⟩ ⟨Nat.zero_le _, Nat.zero_le _⟩ (ih (a + 1) (b - 1) p _ _ _ (nI_1 a) (sub_1 (by omega)) rfl (by omega) (by omega) (by omega) hp q A h6 hT (by omega)) ?_
  rintro _ _ ⟨q1, A1, rfl, rfl, k1, r1⟩
  have l1 := k1.2.2.2.2.1
  have m1 := k1.2.2.2.1
  iterate 1 (refine zv_step (bX7_takes (2 * (fu + 1) + 3)) rfl rfl trivial ?_)
  refine zv_V4 (bX7_takes (2 * (fu + 1) + 3)) rfl rfl rfl rfl rfl rfl rfl ⟨rfl, rfl, rfl⟩ ⟨by show 1 + 1 ≤ 2 * (fu + 1) + 3; omega, by show 8 + (5 + 11) + 64 * (1) ≤ 64 * (2 * (fu + 1) + 3); omega⟩ ⟨Nat.zero_le _, Nat.zero_le _⟩ (mMakes f o A1 J (q := q1 + 1) (by omega) (fun _ => vp_in_nI (by omega) (by decide)) vpm2) ?_
  rintro _ _ ⟨rfl, rfl⟩
  refine zv_iret (bX7_takes (2 * (fu + 1) + 3)) rfl (Or.inl rfl) (Nat.zero_le _) (Nat.zero_le _) ⟨q1 + 1, _, rfl, rfl, tkF_un k1 (by omega) (by omega) (by omega) (k := 8) (by decide) (by decide) ⟨fun h => absurd h (by decide), fun _ => rfl⟩, upd_self _ _ _, Or.inr (Or.inr (Or.inr (Or.inl ⟨rfl, 400 + q1, by omega, by omega, upd_self _ _ _, upd_self _ _ _, ?_⟩)))⟩
  exact Rd_fr fu _ _ _ _ (by omega) (fun r hr x x1 x2 => setsA_o (by omega)) r1
set_option maxHeartbeats 1000000 in
set_option maxRecDepth 20000 in
theorem takK9 (f : Nat → zC) (o : Nat → Int32) (A0 : Nat → Nat → Int32) (J : Nat → Nat → Int64) {h : Nat} (hh : h ≤ 20) (hw : nnW h (A0 8)) {s : Nat} (hJ : okJ h A0 s J) {fu : Nat} (ih : ∀ (i j p : Nat) (x y : Int32) (z : Int64), x = nI i → y = nI j → z = lN p → i < j → j ≤ h → j - i ≤ fu → p < lW J i j → ∀ (q : Nat) (A : Nat → Nat → Int32), (∀ r, 6 ≤ r → A r = A0 r) → tbI 400 (400 + q) A → q + (j - i) ≤ 44 → zK (2 * fu + 3) zX7_takes [.ref 76, .int x, .int y, .long z] (wR f (upd o 29 (nI q)) A J) (fun r w' => ∃ (q1 : Nat) (A' : Nat → Nat → Int32), r = some (.int (nI (400 + q1))) ∧ w' = (wR f (upd o 29 (nI (q1 + 1))) A' J) ∧ tkF A q A' q1 (j - i) ∧ Rd (eW A0) (mW A0 s (lW J)) (lW J) A' fu i j p (400 + q1))) {a b p : Nat} (hb : b ≤ h) (hf : b - a ≤ fu + 1) {A : Nat → Nat → Int32} (h6 : ∀ r, 6 ≤ r → A r = A0 r) {q : Nat} (hT : tbI 400 (400 + q) A) (hq : q + (b - a) ≤ 44) (hp9 : p ≤ cap) {x7 x1 x2 : Int32} {x3 : Int64} {n0 : Nat} (hp : p < wi (eW A0) (A0 6) (lW J) 9 a b) : zV (zMo (2 * (fu + 1) + 3) zX7_takes) false n0 0 0 263 [(9, .int (nI b)), (8, .int (nI a)), (7, .int x7), (5, .long (lN p)), (0, .ref 76), (1, .int x1), (2, .int x2), (3, .long x3)] [] (wR f (upd o 29 (nI q)) A J) (fun r w' => ∃ (q1 : Nat) (A' : Nat → Nat → Int32), r = some (.int (nI (400 + q1))) ∧ w' = (wR f (upd o 29 (nI (q1 + 1))) A' J) ∧ tkF A q A' q1 (b - a) ∧ A' 0 (400 + q1) = nI 9 ∧ Rk (eW A0) (lW J) A' (Rd (eW A0) (mW A0 s (lW J)) (lW J) A' fu) 9 a b p (400 + q1)) := by
  have eE : A 8 = A0 8 := h6 8 (by decide)
  have hab : a < b := by
    rcases Nat.lt_or_ge a b with e | e
    · exact e
    · rw [wi_n e] at hp
      omega
  rw [wi_9 hab] at hp
  split at hp
  case isFalse => omega
  rename_i hc
  iterate 5 (refine zv_step (bX7_takes (2 * (fu + 1) + 3)) rfl rfl trivial ?_)
  refine zv_iale (bX7_takes (2 * (fu + 1) + 3)) rfl rfl (vp_in_nI (by omega) (by decide)) (show A 8 (nI a).toNatClampNeg = nI (eW A0 (a)) by rw [nI_clamp (by omega), eE]; exact (eW_of hw (by omega)).1) ?_
  iterate 6 (refine zv_step (bX7_takes (2 * (fu + 1) + 3)) rfl rfl trivial ?_)
  refine zv_V3 (bX7_takes (2 * (fu + 1) + 3)) rfl rfl rfl rfl rfl rfl rfl ⟨rfl, rfl, rfl⟩ ⟨by show 2 * fu + 3 + 1 ≤ 2 * (fu + 1) + 3; omega, by show 8 + (12 + 11) + 64 * (2 * fu + 3) ≤ 64 * (2 * (fu + 1) + 3); omega⟩ ⟨Nat.zero_le _, Nat.zero_le _⟩ (ih (a + 2) (b) p _ _ _ (nI_2 a) rfl rfl (by omega) (by omega) (by omega) hp q A h6 hT (by omega)) ?_
  rintro _ _ ⟨q1, A1, rfl, rfl, k1, r1⟩
  have l1 := k1.2.2.2.2.1
  have m1 := k1.2.2.2.1
  iterate 1 (refine zv_step (bX7_takes (2 * (fu + 1) + 3)) rfl rfl trivial ?_)
  refine zv_V4 (bX7_takes (2 * (fu + 1) + 3)) rfl rfl rfl rfl rfl rfl rfl ⟨rfl, rfl, rfl⟩ ⟨by show 1 + 1 ≤ 2 * (fu + 1) + 3; omega, by show 8 + (5 + 11) + 64 * (1) ≤ 64 * (2 * (fu + 1) + 3); omega⟩ ⟨Nat.zero_le _, Nat.zero_le _⟩ (mMakes f o A1 J (q := q1 + 1) (by omega) (fun _ => vp_in_nI (by omega) (by decide)) vpm2) ?_
  rintro _ _ ⟨rfl, rfl⟩
  refine zv_iret (bX7_takes (2 * (fu + 1) + 3)) rfl (Or.inl rfl) (Nat.zero_le _) (Nat.zero_le _) ⟨q1 + 1, _, rfl, rfl, tkF_un k1 (by omega) (by omega) (by omega) (k := 9) (by decide) (by decide) ⟨fun _ => ⟨eW A0 a, by omega, rfl⟩, fun h => absurd h (by decide)⟩, upd_self _ _ _, Or.inr (Or.inr (Or.inr (Or.inr (Or.inl ⟨rfl, 400 + q1, by omega, by omega, upd_self _ _ _, upd_self _ _ _, ?_⟩))))⟩
  exact Rd_fr fu _ _ _ _ (by omega) (fun r hr x x1 x2 => setsA_o (by omega)) r1
set_option maxHeartbeats 1000000 in
set_option maxRecDepth 20000 in
theorem takKP (f : Nat → zC) (o : Nat → Int32) (A0 : Nat → Nat → Int32) (J : Nat → Nat → Int64) {h : Nat} (hh : h ≤ 20) (hw : nnW h (A0 8)) {s : Nat} (hJ : okJ h A0 s J) {fu : Nat} (ih : ∀ (i j p : Nat) (x y : Int32) (z : Int64), x = nI i → y = nI j → z = lN p → i < j → j ≤ h → j - i ≤ fu → p < lW J i j → ∀ (q : Nat) (A : Nat → Nat → Int32), (∀ r, 6 ≤ r → A r = A0 r) → tbI 400 (400 + q) A → q + (j - i) ≤ 44 → zK (2 * fu + 3) zX7_takes [.ref 76, .int x, .int y, .long z] (wR f (upd o 29 (nI q)) A J) (fun r w' => ∃ (q1 : Nat) (A' : Nat → Nat → Int32), r = some (.int (nI (400 + q1))) ∧ w' = (wR f (upd o 29 (nI (q1 + 1))) A' J) ∧ tkF A q A' q1 (j - i) ∧ Rd (eW A0) (mW A0 s (lW J)) (lW J) A' fu i j p (400 + q1))) {a b p : Nat} (hb : b ≤ h) (hf : b - a ≤ fu + 1) {A : Nat → Nat → Int32} (h6 : ∀ r, 6 ≤ r → A r = A0 r) {q : Nat} (hT : tbI 400 (400 + q) A) (hq : q + (b - a) ≤ 44) (hp9 : p ≤ cap) {x7 x1 x2 : Int32} {x3 : Int64} {n0 : Nat} {k cc : Nat} (k2 : 2 ≤ k) (k6 : k ≤ 6) (e7 : x7 = nI cc) (half2 : nI cc / Int32.ofInt 2 = nI k) (hp : p < wi (eW A0) (A0 6) (lW J) k a b) : zV (zMo (2 * (fu + 1) + 3) zX7_takes) false n0 0 0 291 [(9, .int (nI b)), (8, .int (nI a)), (7, .int x7), (5, .long (lN p)), (0, .ref 76), (1, .int x1), (2, .int x2), (3, .long x3)] [] (wR f (upd o 29 (nI q)) A J) (fun r w' => ∃ (q1 : Nat) (A' : Nat → Nat → Int32), r = some (.int (nI (400 + q1))) ∧ w' = (wR f (upd o 29 (nI (q1 + 1))) A' J) ∧ tkF A q A' q1 (b - a) ∧ A' 0 (400 + q1) = nI k ∧ Rk (eW A0) (lW J) A' (Rd (eW A0) (mW A0 s (lW J)) (lW J) A' fu) k a b p (400 + q1)) := by
  have eE : A 8 = A0 8 := h6 8 (by decide)
  have hab : a < b := by
    rcases Nat.lt_or_ge a b with e | e
    · exact e
    · rw [wi_n e] at hp
      omega
  iterate 3 (refine zv_step (bX7_takes (2 * (fu + 1) + 3)) rfl rfl trivial ?_)
  refine zv_step (bX7_takes (2 * (fu + 1) + 3)) rfl rfl (show ¬ Int32.ofInt 2 = 0 by decide) ?_
  iterate 3 (refine zv_step (bX7_takes (2 * (fu + 1) + 3)) rfl rfl trivial ?_)
  refine zv_V4 (bX7_takes (2 * (fu + 1) + 3)) rfl rfl rfl rfl rfl rfl rfl ⟨rfl, rfl, rfl⟩ ⟨by show 2 * fu + 4 + 1 ≤ 2 * (fu + 1) + 3; omega, by show 8 + (12 + 11) + 64 * (2 * fu + 4) ≤ 64 * (2 * (fu + 1) + 3); omega⟩ ⟨Nat.zero_le _, Nat.zero_le _⟩ (mTakes2 f o A0 J hh hw hJ ih k2 k6 hab hb hf h6 hT hq hp hp9 (by rw [e7]; exact half2) rfl rfl rfl) ?_
  rintro _ _ ⟨q1, A1, rfl, rfl, k1, c1, r1⟩
  refine zv_iret (bX7_takes (2 * (fu + 1) + 3)) rfl (Or.inl rfl) (Nat.zero_le _) (Nat.zero_le _) ⟨q1, A1, rfl, rfl, k1, c1, r1⟩
theorem mW_pos {A : Nat → Nat → Int32} {s : Nat} {L : Nat → Nat → Nat} {i j c p : Nat} (h : p < mW A s L i j c) : p < wi (eW A) (A 6) L (c / 2) (i + c % 2) (j - c % 2) ∧ (c % 2 = 0 ∨ (eW A i = 29 ∧ eW A (j - 1) = 30)) := by
  unfold mW at h
  split at h
  · rename_i e
    exact ⟨h, e.2⟩
  · omega
theorem mW_le {h : Nat} {A : Nat → Nat → Int32} {s : Nat} {J : Nat → Nat → Int64} (hJ : okJ h A s J) {i j : Nat} (hj : j ≤ h) (c : Nat) : mW A s (lW J) i j c ≤ cap := by
  unfold mW
  split
  · refine wi_le (J := J) (fun a b h1 h2 h3 h4 => ?_)
    have q := okS_l (hJ a b h2 (by omega))
    exact ⟨q.2.2, q.2.1⟩
  · exact Nat.zero_le _
set_option maxHeartbeats 1000000 in
set_option maxRecDepth 20000 in
theorem takL (f : Nat → zC) (o : Nat → Int32) (A0 : Nat → Nat → Int32) (J : Nat → Nat → Int64) {h : Nat} (hh : h ≤ 20) (hw : nnW h (A0 8)) {s : Nat} (hJ : okJ h A0 s J) {fu : Nat} (ih : ∀ (i j p : Nat) (x y : Int32) (z : Int64), x = nI i → y = nI j → z = lN p → i < j → j ≤ h → j - i ≤ fu → p < lW J i j → ∀ (q : Nat) (A : Nat → Nat → Int32), (∀ r, 6 ≤ r → A r = A0 r) → tbI 400 (400 + q) A → q + (j - i) ≤ 44 → zK (2 * fu + 3) zX7_takes [.ref 76, .int x, .int y, .long z] (wR f (upd o 29 (nI q)) A J) (fun r w' => ∃ (q1 : Nat) (A' : Nat → Nat → Int32), r = some (.int (nI (400 + q1))) ∧ w' = (wR f (upd o 29 (nI (q1 + 1))) A' J) ∧ tkF A q A' q1 (j - i) ∧ Rd (eW A0) (mW A0 s (lW J)) (lW J) A' fu i j p (400 + q1))) {i j p : Nat} (hij : i < j) (hj : j ≤ h) (hf : j - i ≤ fu + 1) (hps : p < sW (mW A0 s (lW J) i j) 20) (hp9 : p ≤ cap) {A : Nat → Nat → Int32} (h6 : ∀ r, 6 ≤ r → A r = A0 r) {q : Nat} (hT : tbI 400 (400 + q) A) (hq : q + (j - i) ≤ 44) {n0 : Nat} : ∀ (w c l : Nat), c + w = 20 → p = sW (mW A0 s (lW J) i j) c + l → l ≤ cap → ∀ {x7 : Int32}, x7 = nI c → zV (zMo (2 * (fu + 1) + 3) zX7_takes) false n0 0 0 6 [(7, .int x7), (5, .long (lN l)), (0, .ref 76), (1, .int (nI i)), (2, .int (nI j)), (3, .long (lN p))] [] (wR f (upd o 29 (nI q)) A J) (fun r w' => ∃ (q1 : Nat) (A' : Nat → Nat → Int32), r = some (.int (nI (400 + q1))) ∧ w' = (wR f (upd o 29 (nI (q1 + 1))) A' J) ∧ tkF A q A' q1 (j - i) ∧ Rd (eW A0) (mW A0 s (lW J)) (lW J) A' (fu + 1) i j p (400 + q1)) := by
  intro w
  induction w with
  | zero =>
    intro c l hc hp hl9 x7 e7
    rw [show c = 20 by omega] at hp
    omega
  | succ w ih2 =>
    intro c l hc hp hl9 x7 e7
    subst e7
    have hcap := mW_le hJ (i := i) (j := j) hj c
    iterate 12 (refine zv_step (bX7_takes (2 * (fu + 1) + 3)) rfl rfl trivial ?_)
    refine zv_lale (bX7_takes (2 * (fu + 1) + 3)) rfl rfl (show vp_in (c8 20 * (c8 21 * nI i + nI j) + nI c) 8820 by rw [show c8 20 * (c8 21 * nI i + nI j) + nI c = nI (20 * (21 * i + j) + c) by rw [ix21, ix20m]]; exact vp_in_nI (by omega) (by decide)) (show J 0 (c8 20 * (c8 21 * nI i + nI j) + nI c).toNatClampNeg = lN (mW A0 s (lW J) i j c) by rw [show c8 20 * (c8 21 * nI i + nI j) + nI c = nI (20 * (21 * i + j) + c) by rw [ix21, ix20m], nI_clamp (by omega)]; exact (hJ i j hij hj).1 c (by omega)) ?_
    iterate 2 (refine zv_step (bX7_takes (2 * (fu + 1) + 3)) rfl rfl trivial ?_)
    refine zv_ifb (fun h26 => ?_) (fun h26 => ?_)
    · have hl : l < mW A0 s (lW J) i j c := by
        have h9 : lN l < lN (mW A0 s (lW J) i j c) := (lg_cmp_lt _ _).mp h26
        rwa [lN_ltJ (by unfold cap at *; omega) (by unfold cap at *; omega)] at h9
      rcases (show c % 2 = 1 ∨ c % 2 = 0 by omega) with hodd | hodd
      · iterate 2 (refine zv_step (bX7_takes (2 * (fu + 1) + 3)) rfl rfl trivial ?_)
        refine zv_step (bX7_takes (2 * (fu + 1) + 3)) rfl rfl (show ¬ Int32.ofInt 2 = 0 by decide) ?_
        iterate 2 (refine zv_step (bX7_takes (2 * (fu + 1) + 3)) rfl rfl trivial ?_)
        refine zv_iff (fun h => h (show nI c - nI c / Int32.ofInt 2 * Int32.ofInt 2 = nI 1 by rw [rem2 (by omega), hodd])) ?_
        iterate 7 (refine zv_step (bX7_takes (2 * (fu + 1) + 3)) rfl rfl trivial ?_)
        refine zv_step (bX7_takes (2 * (fu + 1) + 3)) rfl rfl (show ¬ Int32.ofInt 2 = 0 by decide) ?_
        iterate 2 (refine zv_step (bX7_takes (2 * (fu + 1) + 3)) rfl rfl trivial ?_)
        refine zv_iff (fun h => h (show nI c - nI c / Int32.ofInt 2 * Int32.ofInt 2 = nI 1 by rw [rem2 (by omega), hodd])) ?_
        iterate 7 (refine zv_step (bX7_takes (2 * (fu + 1) + 3)) rfl rfl trivial ?_)
        refine zv_step (bX7_takes (2 * (fu + 1) + 3)) rfl rfl (show ¬ Int32.ofInt 2 = 0 by decide) ?_
        have hw2 := (mW_pos hl).1
        rw [hodd] at hw2
        have hw2 : l < wi (eW A0) (A0 6) (lW J) (c / 2) (i + 1) (j - 1) := hw2
        have ehalf : nI c / Int32.ofInt 2 = nI (c / 2) := half (by omega)
        refine zv_locals (l := [(9, .int (nI j - Int32.ofInt 1)), (8, .int (nI i + Int32.ofInt 1)), (7, .int (nI c)), (5, .long (lN l)), (0, .ref 76), (1, .int (nI i)), (2, .int (nI j)), (3, .long (lN p))]) (l' := [(9, .int (nI j - Int32.ofInt 1)), (8, .int (nI i + Int32.ofInt 1)), (7, .int (nI c)), (5, .long (lN l)), (0, .ref 76), (1, .int (nI i)), (2, .int (nI j)), (3, .long (lN p))]) (fun q h => h) ?_
        rw [show nI i + Int32.ofInt 1 = nI (i + 1) from nI_1 i, show nI j - Int32.ofInt 1 = nI (j - 1) from sub_1 (by omega)]
        show zV (zMo (2 * (fu + 1) + 3) zX7_takes) false _ 0 0 95 _ [.int (nI c / Int32.ofInt 2)] _ _
        rw [ehalf]
        refine zv_weak (Q := (fun r w' => ∃ (q1 : Nat) (A' : Nat → Nat → Int32), r = some (.int (nI (400 + q1))) ∧ w' = (wR f (upd o 29 (nI (q1 + 1))) A' J) ∧ tkF A q A' q1 ((j - 1) - (i + 1)) ∧ A' 0 (400 + q1) = nI (c / 2) ∧ Rk (eW A0) (lW J) A' (Rd (eW A0) (mW A0 s (lW J)) (lW J) A' fu) (c / 2) (i + 1) (j - 1) l (400 + q1))) ?_ ?_
        · rintro r w ⟨q1, A1, e1, e2, t1, z1, r1⟩
          exact ⟨q1, A1, e1, e2, ⟨t1.1, t1.2.1, t1.2.2.1, t1.2.2.2.1, by have := t1.2.2.2.2.1; omega, t1.2.2.2.2.2⟩, c, l, by omega, hp, hl, z1, by rw [hodd]; exact r1⟩
        · generalize hk0 : c / 2 = k0 at *
          have hk9 : k0 < 10 := by omega
          match k0, hk9 with
          | 0, _ =>
            refine zv_step (bX7_takes (2 * (fu + 1) + 3)) rfl rfl (by decide) ?_
            exact takK0 f o A0 J hh hw hJ ih (a := (i + 1)) (b := (j - 1)) (by omega) (by omega) h6 hT (by omega) hl9 hw2
          | 1, _ =>
            refine zv_step (bX7_takes (2 * (fu + 1) + 3)) rfl rfl (by decide) ?_
            exact takK1 f o A0 J hh hw hJ ih (a := (i + 1)) (b := (j - 1)) (by omega) (by omega) h6 hT (by omega) hl9 hw2
          | 2, _ =>
            refine zv_step (bX7_takes (2 * (fu + 1) + 3)) rfl rfl (by decide) ?_
            exact takKP f o A0 J hh hw hJ ih (a := (i + 1)) (b := (j - 1)) (by omega) (by omega) h6 hT (by omega) hl9 (by decide) (by decide) rfl (by rw [ehalf]) hw2
          | 3, _ =>
            refine zv_step (bX7_takes (2 * (fu + 1) + 3)) rfl rfl (by decide) ?_
            exact takKP f o A0 J hh hw hJ ih (a := (i + 1)) (b := (j - 1)) (by omega) (by omega) h6 hT (by omega) hl9 (by decide) (by decide) rfl (by rw [ehalf]) hw2
          | 4, _ =>
            refine zv_step (bX7_takes (2 * (fu + 1) + 3)) rfl rfl (by decide) ?_
            exact takKP f o A0 J hh hw hJ ih (a := (i + 1)) (b := (j - 1)) (by omega) (by omega) h6 hT (by omega) hl9 (by decide) (by decide) rfl (by rw [ehalf]) hw2
          | 5, _ =>
            refine zv_step (bX7_takes (2 * (fu + 1) + 3)) rfl rfl (by decide) ?_
            exact takKP f o A0 J hh hw hJ ih (a := (i + 1)) (b := (j - 1)) (by omega) (by omega) h6 hT (by omega) hl9 (by decide) (by decide) rfl (by rw [ehalf]) hw2
          | 6, _ =>
            refine zv_step (bX7_takes (2 * (fu + 1) + 3)) rfl rfl (by decide) ?_
            exact takKP f o A0 J hh hw hJ ih (a := (i + 1)) (b := (j - 1)) (by omega) (by omega) h6 hT (by omega) hl9 (by decide) (by decide) rfl (by rw [ehalf]) hw2
          | 7, _ =>
            refine zv_step (bX7_takes (2 * (fu + 1) + 3)) rfl rfl (by decide) ?_
            exact takK7 f o A0 J hh hw hJ ih (a := (i + 1)) (b := (j - 1)) (by omega) (by omega) h6 hT (by omega) hl9 hw2
          | 8, _ =>
            refine zv_step (bX7_takes (2 * (fu + 1) + 3)) rfl rfl (by decide) ?_
            exact takK8 f o A0 J hh hw hJ ih (a := (i + 1)) (b := (j - 1)) (by omega) (by omega) h6 hT (by omega) hl9 hw2
          | 9, _ =>
            refine zv_step (bX7_takes (2 * (fu + 1) + 3)) rfl rfl (by decide) ?_
            exact takK9 f o A0 J hh hw hJ ih (a := (i + 1)) (b := (j - 1)) (by omega) (by omega) h6 hT (by omega) hl9 hw2
          | k0 + 10, h => exact absurd h (by omega)
      · iterate 2 (refine zv_step (bX7_takes (2 * (fu + 1) + 3)) rfl rfl trivial ?_)
        refine zv_step (bX7_takes (2 * (fu + 1) + 3)) rfl rfl (show ¬ Int32.ofInt 2 = 0 by decide) ?_
        iterate 2 (refine zv_step (bX7_takes (2 * (fu + 1) + 3)) rfl rfl trivial ?_)
        refine zv_ift (fun h => absurd ((nI_eq (b := 1) (by omega) (by decide)).mp (show nI (c % 2) = nI 1 by rw [← rem2 (show c < 21 by omega)]; exact h)) (by omega)) ?_
        iterate 4 (refine zv_step (bX7_takes (2 * (fu + 1) + 3)) rfl rfl trivial ?_)
        refine zv_step (bX7_takes (2 * (fu + 1) + 3)) rfl rfl (show ¬ Int32.ofInt 2 = 0 by decide) ?_
        iterate 2 (refine zv_step (bX7_takes (2 * (fu + 1) + 3)) rfl rfl trivial ?_)
        refine zv_ift (fun h => absurd ((nI_eq (b := 1) (by omega) (by decide)).mp (show nI (c % 2) = nI 1 by rw [← rem2 (show c < 21 by omega)]; exact h)) (by omega)) ?_
        iterate 4 (refine zv_step (bX7_takes (2 * (fu + 1) + 3)) rfl rfl trivial ?_)
        refine zv_step (bX7_takes (2 * (fu + 1) + 3)) rfl rfl (show ¬ Int32.ofInt 2 = 0 by decide) ?_
        have hw2 := (mW_pos hl).1
        rw [hodd] at hw2
        have hw2 : l < wi (eW A0) (A0 6) (lW J) (c / 2) i j := hw2
        have ehalf : nI c / Int32.ofInt 2 = nI (c / 2) := half (by omega)
        refine zv_locals (l := [(9, .int (nI j)), (8, .int (nI i)), (7, .int (nI c)), (5, .long (lN l)), (0, .ref 76), (1, .int (nI i)), (2, .int (nI j)), (3, .long (lN p))]) (l' := [(9, .int (nI j)), (8, .int (nI i)), (7, .int (nI c)), (5, .long (lN l)), (0, .ref 76), (1, .int (nI i)), (2, .int (nI j)), (3, .long (lN p))]) (fun q h => h) ?_
        show zV (zMo (2 * (fu + 1) + 3) zX7_takes) false _ 0 0 95 _ [.int (nI c / Int32.ofInt 2)] _ _
        rw [ehalf]
        refine zv_weak (Q := (fun r w' => ∃ (q1 : Nat) (A' : Nat → Nat → Int32), r = some (.int (nI (400 + q1))) ∧ w' = (wR f (upd o 29 (nI (q1 + 1))) A' J) ∧ tkF A q A' q1 (j - i) ∧ A' 0 (400 + q1) = nI (c / 2) ∧ Rk (eW A0) (lW J) A' (Rd (eW A0) (mW A0 s (lW J)) (lW J) A' fu) (c / 2) i j l (400 + q1))) ?_ ?_
        · rintro r w ⟨q1, A1, e1, e2, t1, z1, r1⟩
          exact ⟨q1, A1, e1, e2, ⟨t1.1, t1.2.1, t1.2.2.1, t1.2.2.2.1, by have := t1.2.2.2.2.1; omega, t1.2.2.2.2.2⟩, c, l, by omega, hp, hl, z1, by rw [hodd]; exact r1⟩
        · generalize hk0 : c / 2 = k0 at *
          have hk9 : k0 < 10 := by omega
          match k0, hk9 with
          | 0, _ =>
            refine zv_step (bX7_takes (2 * (fu + 1) + 3)) rfl rfl (by decide) ?_
            exact takK0 f o A0 J hh hw hJ ih (a := i) (b := j) (by omega) (by omega) h6 hT (by omega) hl9 hw2
          | 1, _ =>
            refine zv_step (bX7_takes (2 * (fu + 1) + 3)) rfl rfl (by decide) ?_
            exact takK1 f o A0 J hh hw hJ ih (a := i) (b := j) (by omega) (by omega) h6 hT (by omega) hl9 hw2
          | 2, _ =>
            refine zv_step (bX7_takes (2 * (fu + 1) + 3)) rfl rfl (by decide) ?_
            exact takKP f o A0 J hh hw hJ ih (a := i) (b := j) (by omega) (by omega) h6 hT (by omega) hl9 (by decide) (by decide) rfl (by rw [ehalf]) hw2
          | 3, _ =>
            refine zv_step (bX7_takes (2 * (fu + 1) + 3)) rfl rfl (by decide) ?_
            exact takKP f o A0 J hh hw hJ ih (a := i) (b := j) (by omega) (by omega) h6 hT (by omega) hl9 (by decide) (by decide) rfl (by rw [ehalf]) hw2
          | 4, _ =>
            refine zv_step (bX7_takes (2 * (fu + 1) + 3)) rfl rfl (by decide) ?_
            exact takKP f o A0 J hh hw hJ ih (a := i) (b := j) (by omega) (by omega) h6 hT (by omega) hl9 (by decide) (by decide) rfl (by rw [ehalf]) hw2
          | 5, _ =>
            refine zv_step (bX7_takes (2 * (fu + 1) + 3)) rfl rfl (by decide) ?_
            exact takKP f o A0 J hh hw hJ ih (a := i) (b := j) (by omega) (by omega) h6 hT (by omega) hl9 (by decide) (by decide) rfl (by rw [ehalf]) hw2
          | 6, _ =>
            refine zv_step (bX7_takes (2 * (fu + 1) + 3)) rfl rfl (by decide) ?_
            exact takKP f o A0 J hh hw hJ ih (a := i) (b := j) (by omega) (by omega) h6 hT (by omega) hl9 (by decide) (by decide) rfl (by rw [ehalf]) hw2
          | 7, _ =>
            refine zv_step (bX7_takes (2 * (fu + 1) + 3)) rfl rfl (by decide) ?_
            exact takK7 f o A0 J hh hw hJ ih (a := i) (b := j) (by omega) (by omega) h6 hT (by omega) hl9 hw2
          | 8, _ =>
            refine zv_step (bX7_takes (2 * (fu + 1) + 3)) rfl rfl (by decide) ?_
            exact takK8 f o A0 J hh hw hJ ih (a := i) (b := j) (by omega) (by omega) h6 hT (by omega) hl9 hw2
          | 9, _ =>
            refine zv_step (bX7_takes (2 * (fu + 1) + 3)) rfl rfl (by decide) ?_
            exact takK9 f o A0 J hh hw hJ ih (a := i) (b := j) (by omega) (by omega) h6 hT (by omega) hl9 hw2
          | k0 + 10, h => exact absurd h (by omega)
    · have hl : ¬ l < mW A0 s (lW J) i j c := fun e => h26 ((lg_cmp_lt _ _).mpr (by rwa [lN_ltJ (by unfold cap at *; omega) (by unfold cap at *; omega)]))
      iterate 12 (refine zv_step (bX7_takes (2 * (fu + 1) + 3)) rfl rfl trivial ?_)
      refine zv_lale (bX7_takes (2 * (fu + 1) + 3)) rfl rfl (show vp_in (c8 20 * (c8 21 * nI i + nI j) + nI c) 8820 by rw [show c8 20 * (c8 21 * nI i + nI j) + nI c = nI (20 * (21 * i + j) + c) by rw [ix21, ix20m]]; exact vp_in_nI (by omega) (by decide)) (show J 0 (c8 20 * (c8 21 * nI i + nI j) + nI c).toNatClampNeg = lN (mW A0 s (lW J) i j c) by rw [show c8 20 * (c8 21 * nI i + nI j) + nI c = nI (20 * (21 * i + j) + c) by rw [ix21, ix20m], nI_clamp (by omega)]; exact (hJ i j hij hj).1 c (by omega)) ?_
      iterate 4 (refine zv_step (bX7_takes (2 * (fu + 1) + 3)) rfl rfl trivial ?_)
      refine zv_locals (l := [(7, .int (nI c + Int32.ofInt 1)), (5, .long (lN l - lN (mW A0 s (lW J) i j c))), (0, .ref 76), (1, .int (nI i)), (2, .int (nI j)), (3, .long (lN p))]) (l' := [(7, .int (nI c + Int32.ofInt 1)), (5, .long (lN l - lN (mW A0 s (lW J) i j c))), (0, .ref 76), (1, .int (nI i)), (2, .int (nI j)), (3, .long (lN p))]) (fun q h => h) ?_
      rw [lN_sub (by omega)]
      exact ih2 (c + 1) (l - mW A0 s (lW J) i j c) (by omega) (by show p = sW (mW A0 s (lW J) i j) c + mW A0 s (lW J) i j c + _; omega) (by omega) (nI_1 c)
set_option maxHeartbeats 1000000 in
set_option maxRecDepth 20000 in
theorem mTakes (f : Nat → zC) (o : Nat → Int32) (A0 : Nat → Nat → Int32) (J : Nat → Nat → Int64) {h : Nat} (hh : h ≤ 20) (hw : nnW h (A0 8)) {s : Nat} (hJ : okJ h A0 s J) : ∀ (fu i j p : Nat) (x y : Int32) (z : Int64), x = nI i → y = nI j → z = lN p → i < j → j ≤ h → j - i ≤ fu → p < lW J i j → ∀ (q : Nat) (A : Nat → Nat → Int32), (∀ r, 6 ≤ r → A r = A0 r) → tbI 400 (400 + q) A → q + (j - i) ≤ 44 → zK (2 * fu + 3) zX7_takes [.ref 76, .int x, .int y, .long z] (wR f (upd o 29 (nI q)) A J) (fun r w' => ∃ (q1 : Nat) (A' : Nat → Nat → Int32), r = some (.int (nI (400 + q1))) ∧ w' = (wR f (upd o 29 (nI (q1 + 1))) A' J) ∧ tkF A q A' q1 (j - i) ∧ Rd (eW A0) (mW A0 s (lW J)) (lW J) A' fu i j p (400 + q1)) := by
  intro fu
  induction fu with
  | zero =>
    intro i j p x y z _ _ _ hij _ hf
    omega
  | succ fu ih =>
    intro i j p x y z ex ey ez hij hj hf hp q A h6 hT hq
    subst ex ey ez
    obtain ⟨e1, e2, _⟩ := okS_l (hJ i j hij hj)
    have hps : p < sW (mW A0 s (lW J) i j) 20 := by
      have := csW_s (mW A0 s (lW J) i j) 20
      omega
    refine zK_of qX7_takes (by decide +kernel) rfl ?_
    iterate 4 (refine zv_step (bX7_takes (2 * (fu + 1) + 3)) rfl rfl trivial ?_)
    refine zv_locals (l := [(7, .int (Int32.ofInt 0)), (5, .long (lN p)), (0, .ref 76), (1, .int (nI i)), (2, .int (nI j)), (3, .long (lN p))]) (l' := [(7, .int (Int32.ofInt 0)), (5, .long (lN p)), (0, .ref 76), (1, .int (nI i)), (2, .int (nI j)), (3, .long (lN p))]) (fun q h => h) (takL f o A0 J hh hw hJ ih hij hj hf hps (by omega) h6 hT hq 20 0 p (by omega) (by show p = 0 + p; omega) (by omega) rfl)
end
