/-- word x of a row of l words, or -1 -/
def erV (l : Nat) (g : Nat → Int32) (x : Int32) : Int32 := if 0 ≤ x.toInt ∧ x.toInt < (l : Int) then g x.toNatClampNeg else Int32.ofInt (-1)
theorem er_no {l : Nat} {g : Nat → Int32} {x : Int32} (h : ¬ (0 ≤ x.toInt ∧ x.toInt < (l : Int))) : Int32.ofInt (-1) = erV l g x := (if_neg h).symm
theorem er_yes {l : Nat} {g : Nat → Int32} {x : Int32} (h : 0 ≤ x.toInt ∧ x.toInt < (l : Int)) : g x.toNatClampNeg = erV l g x := (if_pos h).symm
theorem er_same {l : Nat} {g g' : Nat → Int32} (h : ∀ i, i < l → g i = g' i) (x : Int32) : erV l g x = erV l g' x := by
  unfold erV
  split
  · rename_i q
    exact h _ (by show x.toInt.toNat < l; omega)
  · rfl
theorem er_lt {l : Nat} (hl : l ≤ 20) {x a : Int32} (e : a = nI l) : x < a ↔ x.toInt < (l : Int) := by
  rw [e, Int32.lt_iff_toInt_lt, nI_toInt (by omega)]
theorem er_0 {x : Int32} : x < 0 ↔ x.toInt < 0 := by
  rw [Int32.lt_iff_toInt_lt, Int32.toInt_zero]
set_option maxHeartbeats 1000000 in
set_option maxRecDepth 20000 in
theorem cEarX (O : Nat → Int32) (P : Nat → Nat → Int32) (Y : Nat → Nat → Int64) (g : Nat → zC) {l : Nat} (hl : l ≤ 20) (hO : O 9 = nI l) (x : Int32) : zK 0 zX6_ear [.ref 0, .int x] (wX O P Y g) (fun r w' => w' = wX O P Y g ∧ r = some (.int (erV l (P 32) x))) := by
  refine zK_of qX6_ear (by decide +kernel) rfl ?_
  iterate 2 (refine zv_step (bX6_ear 0) rfl rfl trivial ?_)
  refine zv_ifb (fun h1 => ?_) (fun h1 => ?_)
  · iterate 2 (refine zv_step (bX6_ear 0) rfl rfl trivial ?_)
    exact zv_iret (bX6_ear 0) rfl (Or.inl rfl) (Nat.zero_le _) (Nat.zero_le _) ⟨rfl, congrArg (fun v => some (Value.int v)) (er_no (fun q => by have h9 := er_0.mp h1; omega))⟩
  · iterate 5 (refine zv_step (bX6_ear 0) rfl rfl trivial ?_)
    refine zv_ifb (fun h12 => ?_) (fun h12 => ?_)
    · have q9 : 0 ≤ x.toInt ∧ x.toInt < (l : Int) := ⟨by have h9 : ¬ x.toInt < 0 := fun q => h1 (er_0.mpr q); omega, (er_lt hl hO).mp h12⟩
      iterate 4 (refine zv_step (bX6_ear 0) rfl rfl trivial ?_)
      refine zv_step (bX6_ear 0) rfl rfl (vp_in_iff.mpr ⟨q9.1, by omega⟩) ?_
      exact zv_iret (bX6_ear 0) rfl (Or.inl rfl) (Nat.zero_le _) (Nat.zero_le _) ⟨rfl, congrArg (fun v => some (Value.int v)) (er_yes q9)⟩
    · iterate 2 (refine zv_step (bX6_ear 0) rfl rfl trivial ?_)
      exact zv_iret (bX6_ear 0) rfl (Or.inl rfl) (Nat.zero_le _) (Nat.zero_le _) ⟨rfl, congrArg (fun v => some (Value.int v)) (er_no (fun q => h12 ((er_lt hl hO).mpr q.2)))⟩
set_option maxHeartbeats 1000000 in
set_option maxRecDepth 20000 in
theorem mEarX (f : Nat → zC) (o : Nat → Int32) (A : Nat → Nat → Int32) (J : Nat → Nat → Int64) {h : Nat} (hh : h ≤ 20) (ho10 : o 10 = nI h) (x : Int32) : zK 1 zX7_ear [.ref 76, .int x] (wR f o A J) (fun r w' => w' = (wR f o A J) ∧ r = some (.int (erV h (A 8) x))) := by
  refine zK_of qX7_ear (by decide +kernel) rfl ?_
  iterate 8 (refine zv_step (bX7_ear 1) rfl rfl trivial ?_)
  refine zv_S3 (bX7_ear 1) rfl rfl rfl rfl ⟨rfl, rfl, rfl⟩ ⟨by decide, by decide⟩ ⟨Nat.zero_le _, Nat.zero_le _⟩ (mIn _ _ _ _ (a := 0) (b := (h : Int) - 1) (by decide) (by rw [Int32.toInt_toInt64]; show (o 10 - Int32.ofInt 1).toInt = _; rw [ho10, pred_toInt (by omega)])) ?_
  rintro _ _ ⟨rfl, ⟨g1, rfl⟩ | ⟨g1, rfl⟩⟩
  · skip
    iterate 1 (refine zv_step (bX7_ear 1) rfl rfl trivial ?_)
    refine zv_iff (by decide) ?_
    iterate 3 (refine zv_step (bX7_ear 1) rfl rfl trivial ?_)
    refine zv_step (bX7_ear 1) rfl rfl (vp_in_iff.mpr (by omega)) ?_
    iterate 1 (refine zv_step (bX7_ear 1) rfl rfl trivial ?_)
    exact zv_iret (bX7_ear 1) rfl (Or.inl rfl) (Nat.zero_le _) (Nat.zero_le _) ⟨rfl, congrArg (fun v => some (Value.int v)) (er_yes (by omega))⟩
  · skip
    iterate 1 (refine zv_step (bX7_ear 1) rfl rfl trivial ?_)
    refine zv_ift (by decide) ?_
    iterate 1 (refine zv_step (bX7_ear 1) rfl rfl trivial ?_)
    exact zv_iret (bX7_ear 1) rfl (Or.inl rfl) (Nat.zero_le _) (Nat.zero_le _) ⟨rfl, congrArg (fun v => some (Value.int v)) (er_no (fun q => g1 (by omega)))⟩
/-- how many words, or a refusal -/
def woR (u : Nat) (x y : Int32) (L : Nat → Nat → List Int32) (R : Int32) : Prop :=
  (R = Int32.ofInt (-1) ∧ ¬ ((0 ≤ x.toInt ∧ x.toInt ≤ 7) ∧ isN u y)) ∨ ∃ s n, s < 8 ∧ n < u ∧ x = nI s ∧ y = nI n ∧ ((R = c8 (-5) ∧ 80 < (L s n).length) ∨ ((L s n).length ≤ 80 ∧ R = nI (L s n).length))
theorem isN_nI {u n : Nat} (hu : u ≤ 120) (hn : n < u) : isN u (nI n) := by
  unfold isN
  rw [nI_toInt (by omega)]
  omega
theorem woR_same {u : Nat} (hu : u ≤ 120) {x y R R' : Int32} {L L' : Nat → Nat → List Int32} (g : woR u x y L R) (g' : woR u x y L' R') (e : ∀ s n, s < 8 → n < u → L s n = L' s n) : R = R' := by
  rcases g with ⟨r1, q1⟩ | ⟨s, n, hs, hn, ex, ey, q1⟩ <;> rcases g' with ⟨r2, q2⟩ | ⟨s', n', hs', hn', ex', ey', q2⟩
  · rw [r1, r2]
  · exact absurd ⟨by rw [ex', nI_toInt (by omega)]; omega, by rw [ey']; exact isN_nI hu hn'⟩ q1
  · exact absurd ⟨by rw [ex, nI_toInt (by omega)]; omega, by rw [ey]; exact isN_nI hu hn⟩ q2
  · have es : s = s' := (nI_eq (by omega) (by omega)).mp (ex.symm.trans ex')
    have en : n = n' := (nI_eq (by omega) (by omega)).mp (ey.symm.trans ey')
    subst es
    subst en
    rw [← e s n hs hn] at q2
    rcases q1 with ⟨r1, k1⟩ | ⟨k1, r1⟩ <;> rcases q2 with ⟨r2, k2⟩ | ⟨k2, r2⟩
    · rw [r1, r2]
    · omega
    · omega
    · rw [r1, r2]
set_option maxHeartbeats 1000000 in
set_option maxRecDepth 20000 in
theorem cWordsX (O : Nat → Int32) (P : Nat → Nat → Int32) (Y : Nat → Nat → Int64) (g : Nat → zC) {u : Nat} (hu : u ≤ 120) (h1 : O 1 = nI u) (hp : pgI u (P 2) (P 4) (P 5) (P 6)) {l : Nat} (hl : l ≤ 20) (hO : O 9 = nI l) (x y : Int32) : zK 86 zX6_words [.ref 0, .int x, .int y] (wX O P Y g) (fun r w' => ∃ (O' : Nat → Int32) (P' : Nat → Nat → Int32) (R : Int32), r = some (.int R) ∧ w' = wX O' P' Y g ∧ spT O P O' P' ∧ woR u x y (syL O P) R) := by
  refine zK_of qX6_words (by decide +kernel) rfl ?_
  iterate 1 (refine zv_step (bX6_words 86) rfl rfl trivial ?_)
  refine zv_S1 (bX6_words 86) rfl rfl rfl rfl ⟨rfl, rfl, rfl⟩ ⟨by decide, by decide⟩ ⟨Nat.zero_le _, Nat.zero_le _⟩ (hX6_isStyle _ _) ?_
  rintro _ _ ⟨rfl, ⟨hx, rfl⟩ | ⟨hx, rfl⟩⟩
  · obtain ⟨s, hs, rfl⟩ := in_nat (x := x) (b := 7) (by decide) hx
    iterate 1 (refine zv_step (bX6_words 86) rfl rfl trivial ?_)
    refine zv_iff (by decide) ?_
    iterate 3 (refine zv_step (bX6_words 86) rfl rfl trivial ?_)
    refine zv_V1 (bX6_words 86) rfl rfl rfl rfl rfl rfl rfl ⟨rfl, rfl, rfl⟩ ⟨by decide, by decide⟩ ⟨Nat.zero_le _, Nat.zero_le _⟩ (pHas1 O P Y g _) ?_
    rintro _ _ ⟨rfl, ⟨hh, rfl⟩ | ⟨hh, rfl⟩⟩
    · have hh1 : isN u y := by
        have h9 := hh
        rw [h1, nI_toInt (by omega)] at h9
        exact h9
      obtain ⟨n, hn, rfl⟩ := has_j hu h1 hh
      iterate 1 (refine zv_step (bX6_words 86) rfl rfl trivial ?_)
      refine zv_ift (by decide) ?_
      iterate 8 (refine zv_step (bX6_words 86) rfl rfl trivial ?_)
      refine zv_iale (bX6_words 86) rfl rfl (show vp_in (nI s) 8 from vp_in_nI (by omega) (by decide)) (show P 75 (nI s).toNatClampNeg = P 75 s by rw [nI_clamp (by omega)]) ?_
      iterate 1 (refine zv_step (bX6_words 86) rfl rfl trivial ?_)
      refine zv_V4 (bX6_words 86) rfl rfl rfl rfl rfl rfl rfl ⟨rfl, rfl, rfl⟩ ⟨by decide, by decide⟩ ⟨Nat.zero_le _, Nat.zero_le _⟩ (sStyle27 O P Y g hu h1 hp hn (f := 41) (by decide) rfl) ?_
      rintro _ _ ⟨rfl, rfl⟩
      have hln : (syL O P s n).length ≤ 6 * szq (P 6) (nI n) := by
        show (tlW (O 1) (P 75 s) (Int32.ofInt 0) P 41 (nI n) (hbW (P 75 s) (P 2 n))).length ≤ _
        rw [h1]
        exact tlW_len hu hp 41 _ _
      have hsz := szq_le hp hn hu
      iterate 2 (refine zv_step (bX6_words 86) rfl rfl trivial ?_)
      refine zv_V0 (bX6_words 86) rfl rfl rfl rfl rfl rfl rfl ⟨rfl, rfl, rfl⟩ ⟨by decide, by decide⟩ ⟨Nat.zero_le _, Nat.zero_le _⟩ (sLong27 _ _ _ _) ?_
      rintro _ _ ⟨rfl, ⟨hg, rfl⟩ | ⟨hg, rfl⟩⟩
      · have hg2 : 80 < (syL O P s n).length := by
          have h9 : 80 < (nI (syL O P s n).length).toInt := hg
          rw [nI_toInt (by omega)] at h9
          omega
        iterate 1 (refine zv_step (bX6_words 86) rfl rfl trivial ?_)
        refine zv_iff (by decide) ?_
        iterate 2 (refine zv_step (bX6_words 86) rfl rfl trivial ?_)
        exact zv_iret (bX6_words 86) rfl (Or.inl rfl) (Nat.zero_le _) (Nat.zero_le _) ⟨_, _, _, rfl, rfl, spT_say _ _ _ _, Or.inr ⟨s, n, by omega, hn, rfl, rfl, Or.inl ⟨rfl, hg2⟩⟩⟩
      · have hg2 : ¬ 80 < (syL O P s n).length := fun q => hg (by show 80 < (nI (syL O P s n).length).toInt; rw [nI_toInt (by omega)]; omega)
        iterate 1 (refine zv_step (bX6_words 86) rfl rfl trivial ?_)
        refine zv_ift (by decide) ?_
        iterate 3 (refine zv_step (bX6_words 86) rfl rfl trivial ?_)
        exact zv_iret (bX6_words 86) rfl (Or.inl rfl) (Nat.zero_le _) (Nat.zero_le _) ⟨_, _, _, rfl, rfl, spT_say _ _ _ _, Or.inr ⟨s, n, by omega, hn, rfl, rfl, Or.inr ⟨by omega, rfl⟩⟩⟩
    · have hh1 : ¬ isN u y := fun q => hh (by rw [h1, nI_toInt (by omega)]; exact q)
      iterate 1 (refine zv_step (bX6_words 86) rfl rfl trivial ?_)
      refine zv_iff (by decide) ?_
      iterate 1 (refine zv_step (bX6_words 86) rfl rfl trivial ?_)
      exact zv_iret (bX6_words 86) rfl (Or.inl rfl) (Nat.zero_le _) (Nat.zero_le _) ⟨O, P, _, rfl, rfl, ⟨fun _ _ => rfl, fun _ _ _ => rfl⟩, Or.inl ⟨rfl, fun q => hh1 q.2⟩⟩
  · skip
    iterate 1 (refine zv_step (bX6_words 86) rfl rfl trivial ?_)
    refine zv_ift (by decide) ?_
    iterate 1 (refine zv_step (bX6_words 86) rfl rfl trivial ?_)
    exact zv_iret (bX6_words 86) rfl (Or.inl rfl) (Nat.zero_le _) (Nat.zero_le _) ⟨O, P, _, rfl, rfl, ⟨fun _ _ => rfl, fun _ _ _ => rfl⟩, Or.inl ⟨rfl, fun q => hx q.1⟩⟩
set_option maxHeartbeats 1000000 in
set_option maxRecDepth 20000 in
theorem mWordsX (f : Nat → zC) (o : Nat → Int32) (A : Nat → Nat → Int32) (J : Nat → Nat → Int64) {u : Nat} (hu : u ≤ 120) (ho : o 0 = nI u) (hT : tbI 0 u A) (x y : Int32) : zK 43 zX7_words [.ref 76, .int x, .int y] (wR f o A J) (fun r w' => w' = (wR f o A J) ∧ ∃ R : Int32, r = some (.int R) ∧ woR u x y (fun s n => wdW A s 40 (nI n)) R) := by
  refine zK_of qX7_words (by decide +kernel) rfl ?_
  iterate 1 (refine zv_step (bX7_words 43) rfl rfl trivial ?_)
  refine zv_S1 (bX7_words 43) rfl rfl rfl rfl ⟨rfl, rfl, rfl⟩ ⟨by decide, by decide⟩ ⟨Nat.zero_le _, Nat.zero_le _⟩ (hX7_isStyle _ _) ?_
  rintro _ _ ⟨rfl, ⟨g1, rfl⟩ | ⟨g1, rfl⟩⟩
  · obtain ⟨s, hs, rfl⟩ := in_nat (x := x) (b := 7) (by decide) g1
    iterate 1 (refine zv_step (bX7_words 43) rfl rfl trivial ?_)
    refine zv_iff (by decide) ?_
    iterate 2 (refine zv_step (bX7_words 43) rfl rfl trivial ?_)
    refine zv_V1 (bX7_words 43) rfl rfl rfl rfl rfl rfl rfl ⟨rfl, rfl, rfl⟩ ⟨by decide, by decide⟩ ⟨Nat.zero_le _, Nat.zero_le _⟩ (mIsNode f o A J hu ho _) ?_
    rintro _ _ ⟨rfl, ⟨g2, rfl⟩ | ⟨g2, rfl⟩⟩
    · obtain ⟨n, hn, rfl⟩ := nd_of (by omega) g2
      iterate 1 (refine zv_step (bX7_words 43) rfl rfl trivial ?_)
      refine zv_ift (by decide) ?_
      iterate 3 (refine zv_step (bX7_words 43) rfl rfl trivial ?_)
      refine zv_V2 (bX7_words 43) rfl rfl rfl rfl rfl rfl rfl ⟨rfl, rfl, rfl⟩ ⟨by decide, by decide⟩ ⟨Nat.zero_le _, Nat.zero_le _⟩ (mLength f o A J (by omega) hT (s := s) (by omega) 40 _ (pt_of hT (Nat.zero_le _) hn)) ?_
      rintro _ _ ⟨rfl, rfl⟩
      have hlw := wdW_len (by omega) hT s 40 (nI n) (pt_of hT (Nat.zero_le _) hn)
      have hl9 := lnW_le (by omega) hT s 40 (nI n) (pt_of hT (Nat.zero_le _) hn)
      have hz9 := (rN_sz (hT n (Nat.zero_le _) hn)).2.1
      rw [if_neg (nI_pos (by omega)), nI_clamp (show n < 2 ^ 31 by omega)] at hl9
      iterate 4 (refine zv_step (bX7_words 43) rfl rfl trivial ?_)
      refine zv_ifb (fun h27 => ?_) (fun h27 => ?_)
      · have q27 : (wdW A s 40 (nI n)).length ≤ 80 := by
          have h9 : nI (lnW A s 40 (nI n)) ≤ nI 80 := h27
          rw [nI_leI (by omega) (by decide)] at h9
          omega
        iterate 1 (refine zv_step (bX7_words 43) rfl rfl trivial ?_)
        exact zv_iret (bX7_words 43) rfl (Or.inl rfl) (Nat.zero_le _) (Nat.zero_le _) ⟨rfl, _, rfl, Or.inr ⟨s, n, by omega, hn, rfl, rfl, Or.inr ⟨q27, by show _ = nI (wdW A s 40 (nI n)).length; rw [hlw]⟩⟩⟩
      · have q27 : ¬ (wdW A s 40 (nI n)).length ≤ 80 := fun q => h27 (show nI (lnW A s 40 (nI n)) ≤ nI 80 by rw [nI_leI (by omega) (by decide)]; omega)
        iterate 2 (refine zv_step (bX7_words 43) rfl rfl trivial ?_)
        exact zv_iret (bX7_words 43) rfl (Or.inl rfl) (Nat.zero_le _) (Nat.zero_le _) ⟨rfl, _, rfl, Or.inr ⟨s, n, by omega, hn, rfl, rfl, Or.inl ⟨rfl, by show 80 < (wdW A s 40 (nI n)).length; omega⟩⟩⟩
    · skip
      iterate 1 (refine zv_step (bX7_words 43) rfl rfl trivial ?_)
      refine zv_iff (by decide) ?_
      iterate 1 (refine zv_step (bX7_words 43) rfl rfl trivial ?_)
      exact zv_iret (bX7_words 43) rfl (Or.inl rfl) (Nat.zero_le _) (Nat.zero_le _) ⟨rfl, _, rfl, Or.inl ⟨rfl, fun q => g2 (by have := q.2.1; have := q.2.2; omega)⟩⟩
  · skip
    iterate 1 (refine zv_step (bX7_words 43) rfl rfl trivial ?_)
    refine zv_ift (by decide) ?_
    iterate 1 (refine zv_step (bX7_words 43) rfl rfl trivial ?_)
    exact zv_iret (bX7_words 43) rfl (Or.inl rfl) (Nat.zero_le _) (Nat.zero_le _) ⟨rfl, _, rfl, Or.inl ⟨rfl, fun q => g1 q.1⟩⟩
def cnV (a b c x : Int32) : Int32 := if x = 0 then a else if x = Int32.ofInt 1 then b else if x = Int32.ofInt 2 then c else Int32.ofInt (-1)
def usR (x : Int32) (k : Int32) : Int32 := (x.toUInt32 >>> (k.toUInt32 &&& Int32.toUInt32 31)).toInt32
def bc1 (x : Int32) : Int32 := x - (usR x 1 &&& Int32.ofInt 1431655765)
def bc2 (x : Int32) : Int32 := (x &&& Int32.ofInt 858993459) + (usR x 2 &&& Int32.ofInt 858993459)
def bc3 (x : Int32) : Int32 := (x + usR x 4) &&& Int32.ofInt 252645135
def bc4 (x : Int32) : Int32 := x + usR x (c8 8)
def bc5 (x : Int32) : Int32 := x + usR x (c8 16)
def bcW (x : Int32) : Int32 := bc5 (bc4 (bc3 (bc2 (bc1 x)))) &&& c8 63
/-- how many of the first n are told -/
def fsN (g : Nat → Int32) : Nat → Nat
  | 0 => 0
  | n + 1 => fsN g n + (if g n = 0 then 0 else 1)
theorem fsN_le (g : Nat → Int32) : ∀ n, fsN g n ≤ n
  | 0 => Nat.le_refl _
  | n + 1 => by
    have := fsN_le g n
    show fsN g n + (if g n = 0 then 0 else 1) ≤ n + 1
    split <;> omega
theorem fsN_cg {g g' : Nat → Int32} : ∀ n, (∀ i, i < n → g i = g' i) → fsN g n = fsN g' n
  | 0, _ => rfl
  | n + 1, h => by
    show fsN g n + (if g n = 0 then 0 else 1) = fsN g' n + (if g' n = 0 then 0 else 1)
    rw [fsN_cg n (fun i hi => h i (by omega)), h n (by omega)]
set_option maxRecDepth 100000 in
theorem bc_fs : ∀ m, m < 1024 → bcW (nI m) = nI (fsN (bt m) 10) := by decide +kernel
theorem bc_same {O : Nat → Int32} {A : Nat → Nat → Int32} (h : fnR O A) : bcW (O 0) = nI (fsN (A 6) 10) := by
  obtain ⟨m, hm, e, hv⟩ := h
  rw [e, bc_fs m hm, fsN_cg 10 hv]
set_option maxHeartbeats 1000000 in
set_option maxRecDepth 20000 in
theorem hBitCX (w : zW) (x : Int32) : zK 0 zJ6_bitCount_0f7a4 [.int x] w (fun r w' => w' = w ∧ r = some (.int (bcW x))) := by
  refine zK_of qJ6_bitCount_0f7a4 (by decide +kernel) rfl ?_
  iterate 41 (refine zv_step (bJ6_bitCount_0f7a4 0) rfl rfl trivial ?_)
  exact zv_iret (bJ6_bitCount_0f7a4 0) rfl (Or.inl rfl) (Nat.zero_le _) (Nat.zero_le _) ⟨rfl, rfl⟩
set_option maxHeartbeats 1000000 in
set_option maxRecDepth 20000 in
theorem cCountX (O : Nat → Int32) (P : Nat → Nat → Int32) (Y : Nat → Nat → Int64) (g : Nat → zC) (x : Int32) : zK 1 zX6_count [.ref 0, .int x] (wX O P Y g) (fun r w' => w' = wX O P Y g ∧ r = some (.int (cnV (O 1) (O 9) (bcW (O 0)) x))) := by
  refine zK_of qX6_count (by decide +kernel) rfl ?_
  refine zv_step (bX6_count 1) rfl rfl trivial ?_
  by_cases hd : x.toInt < 0 ∨ 2 < x.toInt
  · refine zv_step (bX6_count 1) rfl rfl (by decide) ?_
    rw [if_pos hd]
    iterate 1 (refine zv_step (bX6_count 1) rfl rfl trivial ?_)
    exact zv_iret (bX6_count 1) rfl (Or.inl rfl) (Nat.zero_le _) (Nat.zero_le _) ⟨rfl, congrArg (fun v => some (Value.int v)) (show Int32.ofInt (-1) = cnV (O 1) (O 9) (bcW (O 0)) x by unfold cnV; rw [if_neg (fun e => by rw [e] at hd; revert hd; decide), if_neg (fun e => by rw [e] at hd; revert hd; decide), if_neg (fun e => by rw [e] at hd; revert hd; decide)])⟩
  · obtain ⟨c, hc, rfl⟩ : ∃ c : Nat, c < 3 ∧ x = nI c := by
      refine ⟨x.toInt.toNat, by omega, ?_⟩
      rw [← Int32.toInt_inj, nI_toInt (by omega)]
      omega
    match c, hc with
    | 0, _ =>
      refine zv_step (bX6_count 1) rfl rfl (by decide) ?_
      iterate 3 (refine zv_step (bX6_count 1) rfl rfl trivial ?_)
      exact zv_iret (bX6_count 1) rfl (Or.inl rfl) (Nat.zero_le _) (Nat.zero_le _) ⟨rfl, congrArg (fun v => some (Value.int v)) (rfl)⟩
    | 1, _ =>
      refine zv_step (bX6_count 1) rfl rfl (by decide) ?_
      iterate 3 (refine zv_step (bX6_count 1) rfl rfl trivial ?_)
      exact zv_iret (bX6_count 1) rfl (Or.inl rfl) (Nat.zero_le _) (Nat.zero_le _) ⟨rfl, congrArg (fun v => some (Value.int v)) (rfl)⟩
    | 2, _ =>
      refine zv_step (bX6_count 1) rfl rfl (by decide) ?_
      iterate 2 (refine zv_step (bX6_count 1) rfl rfl trivial ?_)
      refine zv_S1 (bX6_count 1) rfl rfl rfl rfl ⟨rfl, rfl, rfl⟩ ⟨by decide, by decide⟩ ⟨Nat.zero_le _, Nat.zero_le _⟩ (hBitCX _ _) ?_
      rintro _ _ ⟨rfl, rfl⟩
      exact zv_iret (bX6_count 1) rfl (Or.inl rfl) (Nat.zero_le _) (Nat.zero_le _) ⟨rfl, congrArg (fun v => some (Value.int v)) (rfl)⟩
    | c + 3, h => exact absurd h (by omega)
set_option maxHeartbeats 1000000 in
set_option maxRecDepth 20000 in
theorem funLX (f : Nat → zC) (o : Nat → Int32) (A : Nat → Nat → Int32) (J : Nat → Nat → Int64) {n0 : Nat} : ∀ (c k : Nat), k + c = 10 → ∀ {x2 v : Int32}, x2 = nI k → v = nI (fsN (A 6) k) → zV (zMo 0 zX7_functions) false n0 0 0 4 [(2, .int x2), (1, .int v), (0, .ref 76)] [] (wR f o A J) (fun r w' => w' = (wR f o A J) ∧ r = some (.int (nI (fsN (A 6) 10)))) := by
  intro c
  induction c with
  | zero =>
    intro k hc x2 v e2 ev
    subst e2
    subst ev
    iterate 3 (refine zv_step (bX7_functions 0) rfl rfl trivial ?_)
    refine zv_ift (show nI 10 ≤ nI k from nI_le (by omega) (by omega)) ?_
    iterate 1 (refine zv_step (bX7_functions 0) rfl rfl trivial ?_)
    exact zv_iret (bX7_functions 0) rfl (Or.inl rfl) (Nat.zero_le _) (Nat.zero_le _) ⟨rfl, by rw [show k = 10 by omega]⟩
  | succ c ih =>
    intro k hc x2 v e2 ev
    subst e2
    subst ev
    iterate 3 (refine zv_step (bX7_functions 0) rfl rfl trivial ?_)
    refine zv_iff (show ¬ nI 10 ≤ nI k from fun h => absurd ((nI_leI (by omega) (by omega)).mp h) (by omega)) ?_
    iterate 4 (refine zv_step (bX7_functions 0) rfl rfl trivial ?_)
    refine zv_step (bX7_functions 0) rfl rfl (vp_in_nI (by omega) (by decide)) ?_
    iterate 1 (refine zv_step (bX7_functions 0) rfl rfl trivial ?_)
    refine zv_ifb (fun h17 => ?_) (fun h17 => ?_)
    · iterate 5 (refine zv_step (bX7_functions 0) rfl rfl trivial ?_)
      refine zv_locals (l := [(2, .int (nI k + Int32.ofInt 1)), (1, .int (nI (fsN (A 6) k) + Int32.ofInt 0)), (0, .ref 76)]) (l' := [(2, .int (nI k + Int32.ofInt 1)), (1, .int (nI (fsN (A 6) k) + Int32.ofInt 0)), (0, .ref 76)]) (fun q h => h) (ih (k + 1) (by omega) (nI_1 k) (by show nI (fsN (A 6) k) + nI 0 = nI (fsN (A 6) k + (if A 6 k = 0 then 0 else 1)); rw [nI_add, if_pos (by have h9 : A 6 (nI k).toNatClampNeg = 0 := h17; rwa [nI_clamp (by omega)] at h9)]))
    · iterate 6 (refine zv_step (bX7_functions 0) rfl rfl trivial ?_)
      refine zv_locals (l := [(2, .int (nI k + Int32.ofInt 1)), (1, .int (nI (fsN (A 6) k) + Int32.ofInt 1)), (0, .ref 76)]) (l' := [(2, .int (nI k + Int32.ofInt 1)), (1, .int (nI (fsN (A 6) k) + Int32.ofInt 1)), (0, .ref 76)]) (fun q h => h) (ih (k + 1) (by omega) (nI_1 k) (by show nI (fsN (A 6) k) + nI 1 = nI (fsN (A 6) k + (if A 6 k = 0 then 0 else 1)); rw [nI_add, if_neg (fun e => h17 (by show A 6 (nI k).toNatClampNeg = 0; rw [nI_clamp (by omega)]; exact e))]))
set_option maxHeartbeats 1000000 in
set_option maxRecDepth 20000 in
theorem mFunctionsX (f : Nat → zC) (o : Nat → Int32) (A : Nat → Nat → Int32) (J : Nat → Nat → Int64) : zK 0 zX7_functions [.ref 76] (wR f o A J) (fun r w' => w' = (wR f o A J) ∧ r = some (.int (nI (fsN (A 6) 10)))) := by
  refine zK_of qX7_functions (by decide +kernel) rfl ?_
  iterate 4 (refine zv_step (bX7_functions 0) rfl rfl trivial ?_)
  refine zv_locals (l := [(2, .int (Int32.ofInt 0)), (1, .int (Int32.ofInt 0)), (0, .ref 76)]) (l' := [(2, .int (Int32.ofInt 0)), (1, .int (Int32.ofInt 0)), (0, .ref 76)]) (fun q h => h) (funLX f o A J 10 0 rfl rfl rfl)
set_option maxHeartbeats 1000000 in
set_option maxRecDepth 20000 in
theorem mCountX (f : Nat → zC) (o : Nat → Int32) (A : Nat → Nat → Int32) (J : Nat → Nat → Int64) (x : Int32) : zK 1 zX7_count [.ref 76, .int x] (wR f o A J) (fun r w' => w' = (wR f o A J) ∧ r = some (.int (cnV (o 0) (o 10) (nI (fsN (A 6) 10)) x))) := by
  refine zK_of qX7_count (by decide +kernel) rfl ?_
  iterate 2 (refine zv_step (bX7_count 1) rfl rfl trivial ?_)
  refine zv_ifb (fun h1 => ?_) (fun h1 => ?_)
  · iterate 3 (refine zv_step (bX7_count 1) rfl rfl trivial ?_)
    refine zv_ifb (fun h13 => ?_) (fun h13 => ?_)
    · iterate 3 (refine zv_step (bX7_count 1) rfl rfl trivial ?_)
      refine zv_ifb (fun h25 => ?_) (fun h25 => ?_)
      · iterate 1 (refine zv_step (bX7_count 1) rfl rfl trivial ?_)
        exact zv_iret (bX7_count 1) rfl (Or.inl rfl) (Nat.zero_le _) (Nat.zero_le _) ⟨rfl, congrArg (fun v => some (Value.int v)) (show Int32.ofInt (-1) = cnV (o 0) (o 10) (nI (fsN (A 6) 10)) x by unfold cnV; rw [if_neg h1, if_neg h13, if_neg h25])⟩
      · iterate 1 (refine zv_step (bX7_count 1) rfl rfl trivial ?_)
        refine zv_V0 (bX7_count 1) rfl rfl rfl rfl rfl rfl rfl ⟨rfl, rfl, rfl⟩ ⟨by decide, by decide⟩ ⟨Nat.zero_le _, Nat.zero_le _⟩ (mFunctionsX f o A J) ?_
        rintro _ _ ⟨rfl, rfl⟩
        iterate 1 (refine zv_step (bX7_count 1) rfl rfl trivial ?_)
        exact zv_iret (bX7_count 1) rfl (Or.inl rfl) (Nat.zero_le _) (Nat.zero_le _) ⟨rfl, congrArg (fun v => some (Value.int v)) (show nI (fsN (A 6) 10) = cnV (o 0) (o 10) (nI (fsN (A 6) 10)) x by unfold cnV; rw [if_neg h1, if_neg h13, if_pos (Decidable.not_not.mp h25)])⟩
    · iterate 3 (refine zv_step (bX7_count 1) rfl rfl trivial ?_)
      exact zv_iret (bX7_count 1) rfl (Or.inl rfl) (Nat.zero_le _) (Nat.zero_le _) ⟨rfl, congrArg (fun v => some (Value.int v)) (show o 10 = cnV (o 0) (o 10) (nI (fsN (A 6) 10)) x by unfold cnV; rw [if_neg h1, if_pos (Decidable.not_not.mp h13)])⟩
  · iterate 3 (refine zv_step (bX7_count 1) rfl rfl trivial ?_)
    exact zv_iret (bX7_count 1) rfl (Or.inl rfl) (Nat.zero_le _) (Nat.zero_le _) ⟨rfl, congrArg (fun v => some (Value.int v)) ((if_pos (Decidable.not_not.mp h1)).symm)⟩
