def G_keeps (p1 p2 : Int32) : Prop := (0 ≤ p1.toInt ∧ p1.toInt ≤ 7) ∧ (2 ≤ p2.toInt ∧ p2.toInt ≤ 9 ∧ p2.toInt ≠ 8)
def R_keeps (p1 p2 p3 a : Int32) : Prop := (¬ G_keeps p1 p2 ∧ a = -1) ∨ (G_keeps p1 p2 ∧ p1.toInt = 0 ∧ a = (if p3 = 0 then 1 else 0)) ∨ (G_keeps p1 p2 ∧ ¬ p1.toInt = 0 ∧ a = (if p3 = 0 then 0 else 1))
theorem F_keeps {p1 p2 p3 a b : Int32} (h1 : R_keeps p1 p2 p3 a) (h2 : R_keeps p1 p2 p3 b) : a = b := by
  rcases h1 with ⟨c1, rfl⟩ | ⟨c1, d1, rfl⟩ | ⟨c1, d1, rfl⟩ <;> rcases h2 with ⟨c2, rfl⟩ | ⟨c2, d2, rfl⟩ | ⟨c2, d2, rfl⟩ <;> first | rfl | exact absurd c1 c2 | exact absurd c2 c1 | exact absurd d1 d2 | exact absurd d2 d1
theorem hb764 : ∀ j, j < 10 → (((Int16.ofInt 764).toInt32 >>> (nI j &&& 31)) &&& Int32.ofInt 1 = 0 ↔ ¬ (2 ≤ j ∧ j ≠ 8)) := by decide +kernel
theorem kpl1 : ∀ i, i < 8 → ∀ j, j < 10 → 2 ≤ j → j ≠ 8 → (((upd (fun _ => 0) 0 764) (nI i).toNatClampNeg ||| (Int32.ofInt 1 <<< (nI j &&& 31))) = (upd (fun _ => 0) 0 764) (nI i).toNatClampNeg ↔ i = 0) := by decide +kernel
theorem kpl2b : ∀ i, i < 8 → ∀ j, j < 10 → 2 ≤ j → j ≠ 8 → (((upd (fun _ => 0) 0 764) (nI i).toNatClampNeg &&& ((Int32.ofInt 1 <<< (nI j &&& 31)) ^^^ Int32.ofInt (-1))) == (upd (fun _ => 0) 0 764) (nI i).toNatClampNeg) = !(i == 0) := by decide +kernel
theorem kpl2 (i : Nat) (hi : i < 8) (j : Nat) (hj : j < 10) (h2a : 2 ≤ j) (h2b : j ≠ 8) : ((upd (fun _ => 0) 0 764) (nI i).toNatClampNeg &&& ((Int32.ofInt 1 <<< (nI j &&& 31)) ^^^ Int32.ofInt (-1))) = (upd (fun _ => 0) 0 764) (nI i).toNatClampNeg ↔ ¬ i = 0 := by
  rw [← beq_iff_eq, kpl2b i hi j hj h2a h2b]
  simp
theorem kpm : ∀ i, i < 8 → ∀ j, j < 10 → 2 ≤ j → j ≠ 8 → (upd (upd (upd (upd (upd (upd (upd (upd ((fun _ => 0)) 2 1) 3 1) 4 1) 5 1) 6 1) 7 1) 8 0) 9 1) ((Int8.ofInt 10).toInt32 * nI i + nI j).toNatClampNeg = if i = 0 then 1 else 0 := by decide +kernel
theorem e10 : (Int8.ofInt 10).toInt32 = nI 10 := by decide +kernel
set_option maxHeartbeats 4000000 in
set_option maxRecDepth 20000 in
theorem kKeeps (i j : Nat) (hi : i < 8) (hj : j < 10) (h2a : 2 ≤ j) (h2b : j ≠ 8) {p1 p2 p3 : Int32} (e1 : p1 = nI i) (e2 : p2 = nI j) (hG : G_keeps p1 p2) (hb : p3 = 0 ∨ p3 = 1) {n0 : Nat} : zV (zMo 3 zX6_keeps) false n0 0 0 29 (lv_args 0 [.ref 0, .int p1, .int p2, .int p3]) [] w0 (fun r w' => (∃ a, r = some (.int a) ∧ R_keeps p1 p2 p3 a) ∧ ∀ j, 76 ≤ j → w'[j]? = w0[j]?) := by
  subst e1
  subst e2
  iterate 3 (refine zv_step (bX6_keeps 3) rfl rfl trivial ?_)
  refine zv_step (bX6_keeps 3) rfl rfl (vp_in_nI hi (by decide)) ?_
  iterate 7 (refine zv_step (bX6_keeps 3) rfl rfl trivial ?_)
  rcases hb with rfl | rfl
  · refine zv_S3 (bX6_keeps 3) rfl rfl rfl rfl ⟨rfl, rfl, rfl⟩ ⟨by decide, by decide⟩ ⟨Nat.zero_le _, Nat.zero_le _⟩ (hWB0 _ _ _) ?_
    rintro _ _ ⟨rfl, rfl⟩
    refine zv_step (bX6_keeps 3) rfl rfl (vp_in_nI hi (by decide)) ?_
    iterate 3 (refine zv_step (bX6_keeps 3) rfl rfl trivial ?_)
    refine zv_step (bX6_keeps 3) rfl rfl (vp_in_nI hi (by decide)) ?_
    iterate 2 (refine zv_step (bX6_keeps 3) rfl rfl trivial ?_)
    rw [upd_self]
    by_cases h0 : i = 0
    · refine zv_ift (by rw [kpl2 i hi j hj h2a h2b]; omega) ?_
      iterate 1 (refine zv_step (bX6_keeps 3) rfl rfl trivial ?_)
      exact zv_iret (bX6_keeps 3) rfl (Or.inl rfl) (Nat.zero_le _) (Nat.zero_le _) ⟨⟨_, rfl, Or.inr (Or.inl ⟨hG, by rw [h0]; decide, rfl⟩)⟩, fun j hj => List.getElem?_set_ne (by omega)⟩
    · refine zv_iff (by rw [kpl2 i hi j hj h2a h2b]; omega) ?_
      iterate 2 (refine zv_step (bX6_keeps 3) rfl rfl trivial ?_)
      exact zv_iret (bX6_keeps 3) rfl (Or.inl rfl) (Nat.zero_le _) (Nat.zero_le _) ⟨⟨_, rfl, Or.inr (Or.inr ⟨hG, by rw [nI_toInt (by omega)]; omega, rfl⟩)⟩, fun j hj => List.getElem?_set_ne (by omega)⟩
  · refine zv_S3 (bX6_keeps 3) rfl rfl rfl rfl ⟨rfl, rfl, rfl⟩ ⟨by decide, by decide⟩ ⟨Nat.zero_le _, Nat.zero_le _⟩ (hWB1 _ _ _) ?_
    rintro _ _ ⟨rfl, rfl⟩
    refine zv_step (bX6_keeps 3) rfl rfl (vp_in_nI hi (by decide)) ?_
    iterate 3 (refine zv_step (bX6_keeps 3) rfl rfl trivial ?_)
    refine zv_step (bX6_keeps 3) rfl rfl (vp_in_nI hi (by decide)) ?_
    iterate 2 (refine zv_step (bX6_keeps 3) rfl rfl trivial ?_)
    rw [upd_self]
    by_cases h0 : i = 0
    · refine zv_iff (by rw [kpl1 i hi j hj h2a h2b]; omega) ?_
      iterate 2 (refine zv_step (bX6_keeps 3) rfl rfl trivial ?_)
      exact zv_iret (bX6_keeps 3) rfl (Or.inl rfl) (Nat.zero_le _) (Nat.zero_le _) ⟨⟨_, rfl, Or.inr (Or.inl ⟨hG, by rw [h0]; decide, rfl⟩)⟩, fun j hj => List.getElem?_set_ne (by omega)⟩
    · refine zv_ift (by rw [kpl1 i hi j hj h2a h2b]; omega) ?_
      iterate 1 (refine zv_step (bX6_keeps 3) rfl rfl trivial ?_)
      exact zv_iret (bX6_keeps 3) rfl (Or.inl rfl) (Nat.zero_le _) (Nat.zero_le _) ⟨⟨_, rfl, Or.inr (Or.inr ⟨hG, by rw [nI_toInt (by omega)]; omega, rfl⟩)⟩, fun j hj => List.getElem?_set_ne (by omega)⟩
set_option maxHeartbeats 4000000 in
set_option maxRecDepth 20000 in
theorem cX_keeps (p1 p2 p3 : Int32) (hb : p3 = 0 ∨ p3 = 1) : zK 3 zX6_keeps [.ref 0, .int p1, .int p2, .int p3] w0 (fun r w' => (∃ a, r = some (.int a) ∧ R_keeps p1 p2 p3 a) ∧ ∀ j, 76 ≤ j → w'[j]? = w0[j]?) := by
  refine zK_of qX6_keeps (by decide +kernel) rfl ?_
  iterate 1 (refine zv_step (bX6_keeps 3) rfl rfl trivial ?_)
  refine zv_S1 (bX6_keeps 3) rfl rfl rfl rfl ⟨rfl, rfl, rfl⟩ ⟨by decide, by decide⟩ ⟨Nat.zero_le _, Nat.zero_le _⟩ (hX6_isStyle _ _) ?_
  rintro _ _ ⟨rfl, ⟨hh, rfl⟩ | ⟨hh, rfl⟩⟩
  · iterate 1 (refine zv_step (bX6_keeps 3) rfl rfl trivial ?_)
    refine zv_iff (by decide) ?_
    iterate 2 (refine zv_step (bX6_keeps 3) rfl rfl trivial ?_)
    refine zv_ifb (fun hc => ?_) (fun hc => ?_)
    · rw [Int32.lt_iff_toInt_lt, Int32.toInt_zero] at hc
      iterate 1 (refine zv_step (bX6_keeps 3) rfl rfl trivial ?_)
      exact zv_iret (bX6_keeps 3) rfl (Or.inl rfl) (Nat.zero_le _) (Nat.zero_le _) ⟨⟨_, rfl, Or.inl ⟨fun q => by have := q.2; omega, rfl⟩⟩, fun j hj => rfl⟩
    · rw [Int32.lt_iff_toInt_lt, Int32.toInt_zero] at hc
      iterate 3 (refine zv_step (bX6_keeps 3) rfl rfl trivial ?_)
      refine zv_ifb (fun hd => ?_) (fun hd => ?_)
      · rw [Int32.lt_iff_toInt_lt, i8c 9 (by decide)] at hd
        iterate 1 (refine zv_step (bX6_keeps 3) rfl rfl trivial ?_)
        exact zv_iret (bX6_keeps 3) rfl (Or.inl rfl) (Nat.zero_le _) (Nat.zero_le _) ⟨⟨_, rfl, Or.inl ⟨fun q => by have := q.2; omega, rfl⟩⟩, fun j hj => rfl⟩
      · rw [Int32.lt_iff_toInt_lt, i8c 9 (by decide)] at hd
        obtain ⟨j, hj, e2⟩ := nIof9 (x := p2) (by omega)
        obtain ⟨i, hi, e1⟩ := nIof7 hh
        have ej : p2.toInt = j := by rw [e2]; exact nI_toInt (by omega)
        iterate 2 (refine zv_step (bX6_keeps 3) rfl rfl trivial ?_)
        refine zv_S2 (bX6_keeps 3) rfl rfl rfl rfl ⟨rfl, rfl, rfl⟩ ⟨by decide, by decide⟩ ⟨Nat.zero_le _, Nat.zero_le _⟩ (hHasBit _ _ _) ?_
        rintro _ _ ⟨rfl, ⟨h7, rfl⟩ | ⟨h7, rfl⟩⟩
        · rw [e2, hb764 j hj] at h7
          iterate 1 (refine zv_step (bX6_keeps 3) rfl rfl trivial ?_)
          refine zv_iff (by decide) ?_
          iterate 1 (refine zv_step (bX6_keeps 3) rfl rfl trivial ?_)
          exact zv_iret (bX6_keeps 3) rfl (Or.inl rfl) (Nat.zero_le _) (Nat.zero_le _) ⟨⟨_, rfl, Or.inl ⟨fun q => by have := q.2; omega, rfl⟩⟩, fun j hj => rfl⟩
        · rw [e2, hb764 j hj] at h7
          iterate 1 (refine zv_step (bX6_keeps 3) rfl rfl trivial ?_)
          refine zv_ift (by decide) ?_
          exact kKeeps i j hi hj (by omega) (by omega) e1 e2 ⟨hh, by omega⟩ hb
  · iterate 1 (refine zv_step (bX6_keeps 3) rfl rfl trivial ?_)
    refine zv_ift (by decide) ?_
    iterate 1 (refine zv_step (bX6_keeps 3) rfl rfl trivial ?_)
    exact zv_iret (bX6_keeps 3) rfl (Or.inl rfl) (Nat.zero_le _) (Nat.zero_le _) ⟨⟨_, rfl, Or.inl ⟨fun q => hh q.1, rfl⟩⟩, fun j hj => rfl⟩
set_option maxHeartbeats 4000000 in
set_option maxRecDepth 20000 in
theorem kKeepsM (f : Nat → zC) (i j : Nat) (hi : i < 8) (hj : j < 10) (h2a : 2 ≤ j) (h2b : j ≠ 8) {p1 p2 p3 : Int32} (e1 : p1 = nI i) (e2 : p2 = nI j) (hG : G_keeps p1 p2) (hb : p3 = 0 ∨ p3 = 1) {n0 : Nat} : zV (zMo 3 zX7_keeps) false n0 0 0 16 (lv_args 0 [.ref 76, .int p1, .int p2, .int p3]) [] (wM f) (fun r w' => ∃ a, r = some (.int a) ∧ R_keeps p1 p2 p3 a) := by
  subst e1
  subst e2
  iterate 7 (refine zv_step (bX7_keeps 3) rfl rfl trivial ?_)
  refine zv_zale (bX7_keeps 3) rfl rfl (by show vp_in ((Int8.ofInt 10).toInt32 * nI i + nI j) 90; rw [e10, pk_mul, nI_add]; exact vp_in_nI (by omega) (by decide)) (v := if i = 0 then 1 else 0) (kpm i hi j hj h2a h2b) ?_
  iterate 2 (refine zv_step (bX7_keeps 3) rfl rfl trivial ?_)
  rcases hb with rfl | rfl
  · by_cases h0 : i = 0
    · refine zv_iff (by first | (rw [if_pos h0]; decide) | (rw [if_neg h0]; decide)) ?_
      iterate 11 (refine zv_step (bX7_keeps 3) rfl rfl trivial ?_)
      refine zv_step (bX7_keeps 3) rfl rfl (by show vp_in ((Int8.ofInt 10).toInt32 * nI i + nI j) 90; rw [e10, pk_mul, nI_add]; exact vp_in_nI (by omega) (by decide)) ?_
      iterate 1 (refine zv_step (bX7_keeps 3) rfl rfl trivial ?_)
      exact zv_iret (bX7_keeps 3) rfl (Or.inl rfl) (Nat.zero_le _) (Nat.zero_le _) ⟨_, rfl, Or.inr (Or.inl ⟨hG, by rw [h0]; decide, rfl⟩)⟩
    · refine zv_ift (by first | rw [if_pos h0] | rw [if_neg h0]) ?_
      iterate 10 (refine zv_step (bX7_keeps 3) rfl rfl trivial ?_)
      refine zv_step (bX7_keeps 3) rfl rfl (by show vp_in ((Int8.ofInt 10).toInt32 * nI i + nI j) 90; rw [e10, pk_mul, nI_add]; exact vp_in_nI (by omega) (by decide)) ?_
      iterate 1 (refine zv_step (bX7_keeps 3) rfl rfl trivial ?_)
      exact zv_iret (bX7_keeps 3) rfl (Or.inl rfl) (Nat.zero_le _) (Nat.zero_le _) ⟨_, rfl, Or.inr (Or.inr ⟨hG, by rw [nI_toInt (by omega)]; omega, rfl⟩)⟩
  · by_cases h0 : i = 0
    · refine zv_ift (by first | rw [if_pos h0] | rw [if_neg h0]) ?_
      iterate 10 (refine zv_step (bX7_keeps 3) rfl rfl trivial ?_)
      refine zv_step (bX7_keeps 3) rfl rfl (by show vp_in ((Int8.ofInt 10).toInt32 * nI i + nI j) 90; rw [e10, pk_mul, nI_add]; exact vp_in_nI (by omega) (by decide)) ?_
      iterate 1 (refine zv_step (bX7_keeps 3) rfl rfl trivial ?_)
      exact zv_iret (bX7_keeps 3) rfl (Or.inl rfl) (Nat.zero_le _) (Nat.zero_le _) ⟨_, rfl, Or.inr (Or.inl ⟨hG, by rw [h0]; decide, rfl⟩)⟩
    · refine zv_iff (by first | (rw [if_pos h0]; decide) | (rw [if_neg h0]; decide)) ?_
      iterate 11 (refine zv_step (bX7_keeps 3) rfl rfl trivial ?_)
      refine zv_step (bX7_keeps 3) rfl rfl (by show vp_in ((Int8.ofInt 10).toInt32 * nI i + nI j) 90; rw [e10, pk_mul, nI_add]; exact vp_in_nI (by omega) (by decide)) ?_
      iterate 1 (refine zv_step (bX7_keeps 3) rfl rfl trivial ?_)
      exact zv_iret (bX7_keeps 3) rfl (Or.inl rfl) (Nat.zero_le _) (Nat.zero_le _) ⟨_, rfl, Or.inr (Or.inr ⟨hG, by rw [nI_toInt (by omega)]; omega, rfl⟩)⟩
set_option maxHeartbeats 4000000 in
set_option maxRecDepth 20000 in
theorem cM_keeps (p1 p2 p3 : Int32) (hb : p3 = 0 ∨ p3 = 1) {w : zW} (h : ∀ j, 76 ≤ j → w[j]? = w0[j]?) : zK 3 zX7_keeps [.ref 76, .int p1, .int p2, .int p3] w (fun r w' => ∃ a, r = some (.int a) ∧ R_keeps p1 p2 p3 a) := by
  obtain ⟨f, rfl⟩ := wM_of h
  clear h
  refine zK_of qX7_keeps (by decide +kernel) rfl ?_
  iterate 1 (refine zv_step (bX7_keeps 3) rfl rfl trivial ?_)
  refine zv_S1 (bX7_keeps 3) rfl rfl rfl rfl ⟨rfl, rfl, rfl⟩ ⟨by decide, by decide⟩ ⟨Nat.zero_le _, Nat.zero_le _⟩ (hX7_isStyle _ _) ?_
  rintro _ _ ⟨rfl, ⟨hh, rfl⟩ | ⟨hh, rfl⟩⟩
  · iterate 1 (refine zv_step (bX7_keeps 3) rfl rfl trivial ?_)
    refine zv_iff (by decide) ?_
    iterate 1 (refine zv_step (bX7_keeps 3) rfl rfl trivial ?_)
    refine zv_S1 (bX7_keeps 3) rfl rfl rfl rfl ⟨rfl, rfl, rfl⟩ ⟨by decide, by decide⟩ ⟨Nat.zero_le _, Nat.zero_le _⟩ (hX7_mayKeep _ _) ?_
    rintro _ _ ⟨rfl, ⟨h2, rfl⟩ | ⟨h2, rfl⟩⟩
    · obtain ⟨j, hj, e2⟩ := nIof9 (x := p2) (by omega)
      obtain ⟨i, hi, e1⟩ := nIof7 hh
      have ej : p2.toInt = j := by rw [e2]; exact nI_toInt (by omega)
      iterate 1 (refine zv_step (bX7_keeps 3) rfl rfl trivial ?_)
      refine zv_ift (by decide) ?_
      exact kKeepsM f i j hi hj (by omega) (by omega) e1 e2 ⟨hh, h2⟩ hb
    · iterate 1 (refine zv_step (bX7_keeps 3) rfl rfl trivial ?_)
      refine zv_iff (by decide) ?_
      iterate 1 (refine zv_step (bX7_keeps 3) rfl rfl trivial ?_)
      exact zv_iret (bX7_keeps 3) rfl (Or.inl rfl) (Nat.zero_le _) (Nat.zero_le _) ⟨_, rfl, Or.inl ⟨fun q => h2 q.2, rfl⟩⟩
  · iterate 1 (refine zv_step (bX7_keeps 3) rfl rfl trivial ?_)
    refine zv_ift (by decide) ?_
    iterate 1 (refine zv_step (bX7_keeps 3) rfl rfl trivial ?_)
    exact zv_iret (bX7_keeps 3) rfl (Or.inl rfl) (Nat.zero_le _) (Nat.zero_le _) ⟨_, rfl, Or.inl ⟨fun q => hh q.1, rfl⟩⟩
