theorem e60 : (Int8.ofInt 60).toInt32 = nI 60 := by decide +kernel
theorem upd_self (f : Nat → Int32) (i : Nat) (x : Int32) : upd f i x i = x := if_pos rfl
def G_make (p1 p2 p3 : Int32) : Prop := (0 ≤ p1.toInt ∧ p1.toInt ≤ 7) ∧ (p2.toInt = 3 ∨ p2.toInt = 4) ∧ p3.toInt ≤ 60
def R_make (p1 p2 p3 a : Int32) : Prop := (¬ G_make p1 p2 p3 ∧ a = -1) ∨ (G_make p1 p2 p3 ∧ p3.toInt < 0 ∧ a = -14) ∨ (G_make p1 p2 p3 ∧ ¬ p3.toInt < 0 ∧ a = 0)
theorem F_make {p1 p2 p3 a b : Int32} (h1 : R_make p1 p2 p3 a) (h2 : R_make p1 p2 p3 b) : a = b := by
  rcases h1 with ⟨c1, rfl⟩ | ⟨c1, d1, rfl⟩ | ⟨c1, d1, rfl⟩ <;> rcases h2 with ⟨c2, rfl⟩ | ⟨c2, d2, rfl⟩ | ⟨c2, d2, rfl⟩ <;> first | rfl | exact absurd c1 c2 | exact absurd c2 c1 | exact absurd d1 d2 | exact absurd d2 d1
theorem shelf_at2 {x : Int32} (hx : 0 ≤ x.toInt ∧ x.toInt ≤ 7) : ∃ s r : Nat, s < 76 ∧ r < 76 ∧ s ≠ r ∧ ([some 59, some 61, some 63, some 65, some 67, some 69, some 71, some 73] : List (Option Nat)).getD x.toNatClampNeg none = some s ∧ w0[s]? = some (zO 2 [.int 0, .int (-1), .int 0, .int 0, .ref r, .int 0]) ∧ w0[r]? = some (zI 0 60 (fun _ => 0)) := by
  rcases zcase7 x with rfl | rfl | rfl | rfl | rfl | rfl | rfl | rfl | hc
  · exact ⟨59, 60, by decide, by decide, by decide, rfl, rfl, rfl⟩
  · exact ⟨61, 62, by decide, by decide, by decide, rfl, rfl, rfl⟩
  · exact ⟨63, 64, by decide, by decide, by decide, rfl, rfl, rfl⟩
  · exact ⟨65, 66, by decide, by decide, by decide, rfl, rfl, rfl⟩
  · exact ⟨67, 68, by decide, by decide, by decide, rfl, rfl, rfl⟩
  · exact ⟨69, 70, by decide, by decide, by decide, rfl, rfl, rfl⟩
  · exact ⟨71, 72, by decide, by decide, by decide, rfl, rfl, rfl⟩
  · exact ⟨73, 74, by decide, by decide, by decide, rfl, rfl, rfl⟩
  · omega
set_option maxHeartbeats 4000000 in
set_option maxRecDepth 20000 in
theorem holdLoop (s q : Nat) (t n : Int32) (hsq : s ≠ q) : ∀ (k i : Nat), i + k = 60 → ∀ {x : Int32} {w : zW} {a1 a2 a3 a4 : Value} {g : Nat → Int32} {n0 : Nat}, x = nI i → w[s]? = some (zO 2 [a1, a2, a3, a4, .ref q, .int n]) → w[q]? = some (zI 0 60 g) → zV (zMo 0 zX3_holdNoughts) false n0 0 0 12 [(3, .int x), (0, .ref s), (1, .int t), (2, .int n)] [] w (fun r w' => r = none ∧ ∀ j, j ≠ s → j ≠ q → w'[j]? = w[j]?) := by
  intro k
  induction k with
  | zero =>
    intro i hi x w a1 a2 a3 a4 g n0 hx hs hq
    iterate 3 (refine zv_step (bX3_holdNoughts 0) rfl rfl trivial ?_)
    refine zv_ift (by rw [hx, e60]; exact nI_le (by omega) (by omega)) ?_
    exact zv_ret (bX3_holdNoughts 0) rfl rfl (Nat.zero_le _) (Nat.zero_le _) ⟨rfl, fun _ _ _ => rfl⟩
  | succ k ih =>
    intro i hi x w a1 a2 a3 a4 g n0 hx hs hq
    iterate 3 (refine zv_step (bX3_holdNoughts 0) rfl rfl trivial ?_)
    refine zv_iff (by rw [hx, e60]; exact nI_ge (by omega) (by omega)) ?_
    iterate 1 (refine zv_step (bX3_holdNoughts 0) rfl rfl trivial ?_)
    refine zv_getf (bX3_holdNoughts 0) rfl hs rfl ?_
    iterate 2 (refine zv_step (bX3_holdNoughts 0) rfl rfl trivial ?_)
    refine zv_iast (bX3_holdNoughts 0) rfl hq (by rw [hx]; exact vp_in_nI (by omega) (by omega)) ?_
    iterate 2 (refine zv_step (bX3_holdNoughts 0) rfl rfl trivial ?_)
    refine zv_mono (ih (i + 1) (by omega) (by rw [hx]; exact nI_1 i) ((List.getElem?_set_ne (Ne.symm hsq)).trans hs) (zset_self hq)) (fun r w' h => ⟨h.1, fun j h1 h2 => (h.2 j h1 h2).trans (List.getElem?_set_ne (Ne.symm h2))⟩)
set_option maxHeartbeats 4000000 in
set_option maxRecDepth 20000 in
theorem hNoughts {w : zW} (s q : Nat) (t n : Int32) (hsq : s ≠ q) {a2 a3 a4 : Value} {a1 a6 : Int32} {g : Nat → Int32} (hs : w[s]? = some (zO 2 [.int a1, a2, a3, a4, .ref q, .int a6])) (hq : w[q]? = some (zI 0 60 g)) : zK 0 zX3_holdNoughts [.ref s, .int t, .int n] w (fun r w' => r = none ∧ ∀ j, j ≠ s → j ≠ q → w'[j]? = w[j]?) := by
  refine zK_of qX3_holdNoughts (by decide +kernel) rfl ?_
  iterate 2 (refine zv_step (bX3_holdNoughts 0) rfl rfl trivial ?_)
  refine zv_putf (bX3_holdNoughts 0) rfl hs rfl rfl ?_
  iterate 2 (refine zv_step (bX3_holdNoughts 0) rfl rfl trivial ?_)
  refine zv_putf (bX3_holdNoughts 0) rfl (zset_self hs) rfl rfl ?_
  iterate 2 (refine zv_step (bX3_holdNoughts 0) rfl rfl trivial ?_)
  exact zv_mono (holdLoop s q t n hsq 60 0 rfl rfl (zset_self (zset_self hs)) ((List.getElem?_set_ne hsq).trans ((List.getElem?_set_ne hsq).trans hq))) (fun r w' h => ⟨h.1, fun j h1 h2 => (h.2 j h1 h2).trans ((List.getElem?_set_ne (Ne.symm h1)).trans (List.getElem?_set_ne (Ne.symm h1)))⟩)
set_option maxHeartbeats 4000000 in
set_option maxRecDepth 20000 in
theorem kMake (p1 p2 p3 : Int32) (hh : 0 ≤ p1.toInt ∧ p1.toInt ≤ 7) (h2 : p2.toInt = 3 ∨ p2.toInt = 4) {n0 : Nat} : zV (zMo 3 zX6_make) false n0 0 0 17 (lv_args 0 [.ref 0, .int p1, .int p2, .int p3]) [] w0 (fun r w' => (∃ a, r = some (.int a) ∧ R_make p1 p2 p3 a) ∧ ∀ j, 76 ≤ j → w'[j]? = w0[j]?) := by
  obtain ⟨s1, q1, ls, lq, hsq, g1, c1, r1⟩ := shelf_at2 hh
  iterate 3 (refine zv_step (bX6_make 3) rfl rfl trivial ?_)
  refine zv_ifb (fun hc => ?_) (fun hc => ?_)
  · rw [Int32.le_iff_toInt_le, i8c 60 (by decide)] at hc
    iterate 2 (refine zv_step (bX6_make 3) rfl rfl trivial ?_)
    refine zv_ifb (fun hd => ?_) (fun hd => ?_)
    · rw [Int32.le_iff_toInt_le, Int32.toInt_zero] at hd
      iterate 3 (refine zv_step (bX6_make 3) rfl rfl trivial ?_)
      refine zv_aald (bX6_make 3) rfl (Or.inl rfl) rfl (vp_in_iff.mpr ⟨hh.1, Int.lt_of_le_of_lt hh.2 (by decide)⟩) g1 ?_
      iterate 2 (refine zv_step (bX6_make 3) rfl rfl trivial ?_)
      refine zv_V2 (bX6_make 3) rfl rfl rfl c1 rfl rfl rfl ⟨rfl, rfl, rfl⟩ ⟨by decide, by decide⟩ ⟨Nat.zero_le _, Nat.zero_le _⟩ (hNoughts s1 q1 _ _ hsq c1 r1) ?_
      rintro _ w1 ⟨rfl, hw1⟩
      iterate 1 (refine zv_step (bX6_make 3) rfl rfl trivial ?_)
      exact zv_iret (bX6_make 3) rfl (Or.inl rfl) (Nat.zero_le _) (Nat.zero_le _) ⟨⟨_, rfl, Or.inr (Or.inr ⟨⟨hh, h2, hc⟩, by omega, rfl⟩)⟩, fun j hj => hw1 j (by omega) (by omega)⟩
    · rw [Int32.le_iff_toInt_le, Int32.toInt_zero] at hd
      iterate 1 (refine zv_step (bX6_make 3) rfl rfl trivial ?_)
      exact zv_iret (bX6_make 3) rfl (Or.inl rfl) (Nat.zero_le _) (Nat.zero_le _) ⟨⟨_, rfl, Or.inr (Or.inl ⟨⟨hh, h2, hc⟩, by omega, rfl⟩)⟩, fun j hj => rfl⟩
  · rw [Int32.le_iff_toInt_le, i8c 60 (by decide)] at hc
    iterate 1 (refine zv_step (bX6_make 3) rfl rfl trivial ?_)
    exact zv_iret (bX6_make 3) rfl (Or.inl rfl) (Nat.zero_le _) (Nat.zero_le _) ⟨⟨_, rfl, Or.inl ⟨fun q => hc q.2.2, rfl⟩⟩, fun j hj => rfl⟩
set_option maxHeartbeats 4000000 in
set_option maxRecDepth 20000 in
theorem cX_make (p1 p2 p3 : Int32) : zK 3 zX6_make [.ref 0, .int p1, .int p2, .int p3] w0 (fun r w' => (∃ a, r = some (.int a) ∧ R_make p1 p2 p3 a) ∧ ∀ j, 76 ≤ j → w'[j]? = w0[j]?) := by
  refine zK_of qX6_make (by decide +kernel) rfl ?_
  iterate 1 (refine zv_step (bX6_make 3) rfl rfl trivial ?_)
  refine zv_S1 (bX6_make 3) rfl rfl rfl rfl ⟨rfl, rfl, rfl⟩ ⟨by decide, by decide⟩ ⟨Nat.zero_le _, Nat.zero_le _⟩ (hX6_isShelf _ _) ?_
  rintro _ _ ⟨rfl, ⟨hh, rfl⟩ | ⟨hh, rfl⟩⟩
  · iterate 1 (refine zv_step (bX6_make 3) rfl rfl trivial ?_)
    refine zv_iff (by decide) ?_
    iterate 3 (refine zv_step (bX6_make 3) rfl rfl trivial ?_)
    refine zv_ifb (fun h3 => ?_) (fun h3 => ?_)
    · rw [i32e _ 3 (by decide)] at h3
      exact kMake p1 p2 p3 hh (Or.inl h3)
    · rw [i32e _ 3 (by decide)] at h3
      iterate 3 (refine zv_step (bX6_make 3) rfl rfl trivial ?_)
      refine zv_ifb (fun h4 => ?_) (fun h4 => ?_)
      · rw [i32e _ 4 (by decide)] at h4
        iterate 1 (refine zv_step (bX6_make 3) rfl rfl trivial ?_)
        exact zv_iret (bX6_make 3) rfl (Or.inl rfl) (Nat.zero_le _) (Nat.zero_le _) ⟨⟨_, rfl, Or.inl ⟨fun q => q.2.1.elim h3 h4, rfl⟩⟩, fun j hj => rfl⟩
      · rw [i32e _ 4 (by decide)] at h4
        exact kMake p1 p2 p3 hh (Or.inr (Decidable.not_not.mp h4))
  · iterate 1 (refine zv_step (bX6_make 3) rfl rfl trivial ?_)
    refine zv_ift (by decide) ?_
    iterate 1 (refine zv_step (bX6_make 3) rfl rfl trivial ?_)
    exact zv_iret (bX6_make 3) rfl (Or.inl rfl) (Nat.zero_le _) (Nat.zero_le _) ⟨⟨_, rfl, Or.inl ⟨fun q => hh q.1, rfl⟩⟩, fun j hj => rfl⟩
set_option maxHeartbeats 4000000 in
set_option maxRecDepth 20000 in
theorem mLoop (d n : Nat) (p2 : Int32) (hd : d < 8) (hn : n ≤ 60) {Q : Option Value → zW → Prop} (hQ : ∀ w', Q (some (.int 0)) w') : ∀ (k i : Nat), i + k = n → ∀ {x : Int32} {w : zW} {fs : List Value} {g : Nat → Int32} {n0 : Nat}, x = nI i → w[76]? = some (zO 6 fs) → fs[15]? = some (.ref 90) → w[90]? = some (zI 0 480 g) → zV (zMo 3 zX7_make) false n0 0 0 53 [(4, .int x), (0, .ref 76), (1, .int (nI d)), (2, .int p2), (3, .int (nI n))] [] w Q := by
  intro k
  induction k with
  | zero =>
    intro i hi x w fs g n0 hx hs hf hq
    iterate 3 (refine zv_step (bX7_make 3) rfl rfl trivial ?_)
    refine zv_ift (by rw [hx]; exact nI_le (by omega) (by omega)) ?_
    iterate 1 (refine zv_step (bX7_make 3) rfl rfl trivial ?_)
    exact zv_iret (bX7_make 3) rfl (Or.inl rfl) (Nat.zero_le _) (Nat.zero_le _) (hQ _)
  | succ k ih =>
    intro i hi x w fs g n0 hx hs hf hq
    iterate 3 (refine zv_step (bX7_make 3) rfl rfl trivial ?_)
    refine zv_iff (by rw [hx]; exact nI_ge (by omega) (by omega)) ?_
    iterate 1 (refine zv_step (bX7_make 3) rfl rfl trivial ?_)
    refine zv_getf (bX7_make 3) rfl hs hf ?_
    iterate 6 (refine zv_step (bX7_make 3) rfl rfl trivial ?_)
    refine zv_iast (bX7_make 3) rfl hq (by show vp_in ((Int8.ofInt 60).toInt32 * nI d + x) 480; rw [hx, e60, pk_mul, nI_add]; exact vp_in_nI (by omega) (by omega)) ?_
    iterate 2 (refine zv_step (bX7_make 3) rfl rfl trivial ?_)
    exact ih (i + 1) (by omega) (by rw [hx]; exact nI_1 i) ((List.getElem?_set_ne (by decide)).trans hs) hf (zset_self hq)
theorem in34 (x : Int32) : (Int64.ofInt 3).toInt ≤ x.toInt64.toInt ∧ x.toInt64.toInt ≤ (Int64.ofInt 4).toInt ↔ x.toInt = 3 ∨ x.toInt = 4 := by
  rw [Int32.toInt_toInt64, i64c 3 (by decide), i64c 4 (by decide)]
  omega
theorem nIof7 {x : Int32} (h : 0 ≤ x.toInt ∧ x.toInt ≤ 7) : ∃ j : Nat, j < 8 ∧ x = nI j := vp_in_of (vp_in_iff.mpr ⟨h.1, Int.lt_of_le_of_lt h.2 (by decide)⟩) (by decide)
theorem nIof60 {x : Int32} (h : 0 ≤ x.toInt ∧ x.toInt ≤ 60) : ∃ j : Nat, j < 61 ∧ x = nI j := vp_in_of (vp_in_iff.mpr ⟨h.1, Int.lt_of_le_of_lt h.2 (by decide)⟩) (by decide)
set_option maxHeartbeats 4000000 in
set_option maxRecDepth 20000 in
theorem cM_make (p1 p2 p3 : Int32) {w : zW} (h : ∀ j, 76 ≤ j → w[j]? = w0[j]?) : zK 3 zX7_make [.ref 76, .int p1, .int p2, .int p3] w (fun r w' => ∃ a, r = some (.int a) ∧ R_make p1 p2 p3 a) := by
  obtain ⟨f, rfl⟩ := wM_of h
  clear h
  refine zK_of qX7_make (by decide +kernel) rfl ?_
  iterate 1 (refine zv_step (bX7_make 3) rfl rfl trivial ?_)
  refine zv_S1 (bX7_make 3) rfl rfl rfl rfl ⟨rfl, rfl, rfl⟩ ⟨by decide, by decide⟩ ⟨Nat.zero_le _, Nat.zero_le _⟩ (hX7_isShelf _ _) ?_
  rintro _ _ ⟨rfl, ⟨hh, rfl⟩ | ⟨hh, rfl⟩⟩
  · iterate 1 (refine zv_step (bX7_make 3) rfl rfl trivial ?_)
    refine zv_iff (by decide) ?_
    iterate 4 (refine zv_step (bX7_make 3) rfl rfl trivial ?_)
    refine zv_S3 (bX7_make 3) rfl rfl rfl rfl ⟨rfl, rfl, rfl⟩ ⟨by decide, by decide⟩ ⟨Nat.zero_le _, Nat.zero_le _⟩ (hX7_in _ _ _ _) ?_
    rintro _ _ ⟨rfl, ⟨h2, rfl⟩ | ⟨h2, rfl⟩⟩
    · rw [in34] at h2
      iterate 1 (refine zv_step (bX7_make 3) rfl rfl trivial ?_)
      refine zv_iff (by decide) ?_
      iterate 3 (refine zv_step (bX7_make 3) rfl rfl trivial ?_)
      refine zv_ifb (fun hc => ?_) (fun hc => ?_)
      · rw [Int32.le_iff_toInt_le, i8c 60 (by decide)] at hc
        iterate 2 (refine zv_step (bX7_make 3) rfl rfl trivial ?_)
        refine zv_ifb (fun hd => ?_) (fun hd => ?_)
        · rw [Int32.le_iff_toInt_le, Int32.toInt_zero] at hd
          obtain ⟨d, hd8, rfl⟩ := nIof7 hh
          obtain ⟨n, hn, rfl⟩ := nIof60 ⟨hd, hc⟩
          iterate 4 (refine zv_step (bX7_make 3) rfl rfl trivial ?_)
          refine zv_step (bX7_make 3) rfl rfl (vp_in_nI hd8 (by decide)) ?_
          iterate 4 (refine zv_step (bX7_make 3) rfl rfl trivial ?_)
          refine zv_step (bX7_make 3) rfl rfl (vp_in_nI hd8 (by decide)) ?_
          iterate 2 (refine zv_step (bX7_make 3) rfl rfl trivial ?_)
          exact mLoop d n p2 hd8 (by omega) (fun w' => ⟨_, rfl, Or.inr (Or.inr ⟨⟨hh, h2, hc⟩, by omega, rfl⟩)⟩) n 0 (by omega) rfl rfl rfl rfl
        · rw [Int32.le_iff_toInt_le, Int32.toInt_zero] at hd
          iterate 1 (refine zv_step (bX7_make 3) rfl rfl trivial ?_)
          exact zv_iret (bX7_make 3) rfl (Or.inl rfl) (Nat.zero_le _) (Nat.zero_le _) ⟨_, rfl, Or.inr (Or.inl ⟨⟨hh, h2, hc⟩, by omega, rfl⟩)⟩
      · rw [Int32.le_iff_toInt_le, i8c 60 (by decide)] at hc
        iterate 1 (refine zv_step (bX7_make 3) rfl rfl trivial ?_)
        exact zv_iret (bX7_make 3) rfl (Or.inl rfl) (Nat.zero_le _) (Nat.zero_le _) ⟨_, rfl, Or.inl ⟨fun q => hc q.2.2, rfl⟩⟩
    · rw [in34] at h2
      iterate 1 (refine zv_step (bX7_make 3) rfl rfl trivial ?_)
      refine zv_ift (by decide) ?_
      iterate 1 (refine zv_step (bX7_make 3) rfl rfl trivial ?_)
      exact zv_iret (bX7_make 3) rfl (Or.inl rfl) (Nat.zero_le _) (Nat.zero_le _) ⟨_, rfl, Or.inl ⟨fun q => h2 q.2.1, rfl⟩⟩
  · iterate 1 (refine zv_step (bX7_make 3) rfl rfl trivial ?_)
    refine zv_ift (by decide) ?_
    iterate 1 (refine zv_step (bX7_make 3) rfl rfl trivial ?_)
    exact zv_iret (bX7_make 3) rfl (Or.inl rfl) (Nat.zero_le _) (Nat.zero_le _) ⟨_, rfl, Or.inl ⟨fun q => hh q.1, rfl⟩⟩
