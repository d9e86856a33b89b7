section
/-- the walk: its top, and each NODE gone through, its SIZE and how deep -/
def rtM (A : Nat → Nat → Int32) (t d : Nat) (N : Nat → Int32) : Prop := N 0 = nI t ∧ ∀ i, i ≤ d → ∃ j, j ≤ t ∧ N i = nI j ∧ szN A j + i ≤ 40
theorem rtM_up {A : Nat → Nat → Int32} {t d d' : Nat} {N : Nat → Int32} (h : rtM A t d N) (hd : d' ≤ d) : rtM A t d' N := ⟨h.1, fun i hi => h.2 i (by omega)⟩
theorem rtM_set {A : Nat → Nat → Int32} {t d : Nat} {N : Nat → Int32} (h : rtM A t d N) {a : Nat} (ha : a ≤ t) (hz : szN A a + (d + 1) ≤ 40) : rtM A t (d + 1) (upd N (d + 1) (nI a)) := by
  refine ⟨(upd_ne _ _ (by omega)).trans h.1, fun i hi => ?_⟩
  by_cases c : i = d + 1
  · subst c
    exact ⟨a, ha, upd_self _ _ _, hz⟩
  · obtain ⟨j, hj, e2, hz2⟩ := h.2 i (by omega)
    exact ⟨j, hj, (upd_ne _ _ c).trans e2, hz2⟩
theorem rtM_d {A : Nat → Nat → Int32} {u t d : Nat} {N : Nat → Int32} (hT : tbI 0 u A) (ht : t < u) (h : rtM A t d N) : d ≤ 39 := by
  obtain ⟨j, hj, _, hz⟩ := h.2 d (Nat.le_refl _)
  have := (rN_sz (hT j (Nat.zero_le _) (by omega))).1
  omega
theorem rN_dn {lo n : Nat} {A : Nat → Nat → Int32} (h : rN lo A n) : (A 2 n = m2 ∨ ∃ a, A 2 n = nI a ∧ a < n ∧ szN A a + 1 ≤ szN A n) ∧ (A 3 n = m2 ∨ ∃ a, A 3 n = nI a ∧ a < n ∧ szN A a + 1 ≤ szN A n) := by
  obtain ⟨k, y, _, _, h4, hy, hs, _⟩ := h
  rw [szN_of h4 hy]
  rcases hs with ⟨_, h2, h3, e⟩ | ⟨_, _, a, b, h2, la, ha, h3, lb, hb, e⟩ | ⟨_, a, h2, la, ha, h3, e⟩
  · exact ⟨Or.inl h2, Or.inl h3⟩
  · exact ⟨Or.inr ⟨a, h2, ha, by omega⟩, Or.inr ⟨b, h3, hb, by omega⟩⟩
  · exact ⟨Or.inr ⟨a, h2, ha, by omega⟩, Or.inl h3⟩
set_option maxHeartbeats 1000000 in
set_option maxRecDepth 20000 in
theorem mDown (f : Nat → zC) (o : Nat → Int32) (A : Nat → Nat → Int32) (J : Nat → Nat → Int64) {u : Nat} (hu : u ≤ 120) (hT : tbI 0 u A) {t d : Nat} (ht : t < u) {N : Nat → Int32} (D : Nat → Int32) (hr : rtM A t d N) (x : Int32) : zK 1 zX7_down [.ref 76, .int x] (wR f (upd o 33 (nI d)) (updA (updA A 20 N) 21 D) J) (fun r w' => ∃ (d' : Nat) (N' D' : Nat → Int32), w' = (wR f (upd o 33 (nI d')) (updA (updA A 20 N') 21 D') J) ∧ rtM A t d' N' ∧ (r = some (.int 1) ∨ r = some (.int 0))) := by
  have hd9 := rtM_d hT ht hr
  have e8 : nI d + Int32.ofInt 1 = nI (d + 1) := nI_1 d
  have e7 : (nI d + Int32.ofInt 1).toNatClampNeg = d + 1 := by rw [e8, nI_clamp (by omega)]
  obtain ⟨j, hj, ej, hz⟩ := hr.2 d (Nat.le_refl _)
  obtain ⟨hd2, hd3⟩ := rN_dn (hT j (Nat.zero_le _) (by omega))
  refine zK_of qX7_down (by decide +kernel) rfl ?_
  iterate 2 (refine zv_step (bX7_down 1) rfl rfl trivial ?_)
  refine zv_ifb (fun h1 => ?_) (fun h1 => ?_)
  · rcases hd3 with e2 | ⟨a, e2, ha, hza⟩
    · skip
      iterate 6 (refine zv_step (bX7_down 1) rfl rfl trivial ?_)
      refine zv_iale (bX7_down 1) rfl rfl (vp_in_nI (by omega) (by decide)) (show N (nI d).toNatClampNeg = nI j by rw [nI_clamp (by omega)]; exact ej) ?_
      refine zv_iale (bX7_down 1) rfl rfl (vp_in_nI (by omega) (by decide)) (show A 3 (nI j).toNatClampNeg = m2 by rw [nI_clamp (by omega)]; exact e2) ?_
      iterate 3 (refine zv_step (bX7_down 1) rfl rfl trivial ?_)
      refine zv_ift (by decide) ?_
      iterate 2 (refine zv_step (bX7_down 1) rfl rfl trivial ?_)
      refine zv_ift (by decide) ?_
      iterate 1 (refine zv_step (bX7_down 1) rfl rfl trivial ?_)
      exact zv_iret (bX7_down 1) rfl (Or.inr ⟨rfl, Or.inl rfl⟩) (Nat.zero_le _) (Nat.zero_le _) ⟨d, N, D, rfl, hr, Or.inr rfl⟩
    · skip
      iterate 6 (refine zv_step (bX7_down 1) rfl rfl trivial ?_)
      refine zv_iale (bX7_down 1) rfl rfl (vp_in_nI (by omega) (by decide)) (show N (nI d).toNatClampNeg = nI j by rw [nI_clamp (by omega)]; exact ej) ?_
      refine zv_iale (bX7_down 1) rfl rfl (vp_in_nI (by omega) (by decide)) (show A 3 (nI j).toNatClampNeg = nI a by rw [nI_clamp (by omega)]; exact e2) ?_
      iterate 3 (refine zv_step (bX7_down 1) rfl rfl trivial ?_)
      refine zv_iff (nI_pos (by omega)) ?_
      iterate 7 (refine zv_step (bX7_down 1) rfl rfl trivial ?_)
      refine zv_step (bX7_down 1) rfl rfl (show vp_in (nI d + Int32.ofInt 1) 41 by rw [show nI d + Int32.ofInt 1 = nI (d + 1) from nI_1 d]; exact vp_in_nI (by omega) (by decide)) ?_
      iterate 7 (refine zv_step (bX7_down 1) rfl rfl trivial ?_)
      refine zv_step (bX7_down 1) rfl rfl (show vp_in (nI d + Int32.ofInt 1) 41 by rw [show nI d + Int32.ofInt 1 = nI (d + 1) from nI_1 d]; exact vp_in_nI (by omega) (by decide)) ?_
      iterate 8 (refine zv_step (bX7_down 1) rfl rfl trivial ?_)
      refine zv_iff (nI_pos (by omega)) ?_
      iterate 2 (refine zv_step (bX7_down 1) rfl rfl trivial ?_)
      exact zv_iret (bX7_down 1) rfl (Or.inr ⟨rfl, Or.inr rfl⟩) (Nat.zero_le _) (Nat.zero_le _) ⟨d + 1, upd N (d + 1) (nI a), upd D (d + 1) x, by show wR f (upd o 33 (nI d + Int32.ofInt 1)) (updA (updA A 20 (upd N (nI d + Int32.ofInt 1).toNatClampNeg (nI a))) 21 (upd D (nI d + Int32.ofInt 1).toNatClampNeg x)) J = _; rw [e7, e8], rtM_set hr (by omega) (by omega), Or.inl rfl⟩
  · rcases hd2 with e2 | ⟨a, e2, ha, hza⟩
    · skip
      iterate 6 (refine zv_step (bX7_down 1) rfl rfl trivial ?_)
      refine zv_iale (bX7_down 1) rfl rfl (vp_in_nI (by omega) (by decide)) (show N (nI d).toNatClampNeg = nI j by rw [nI_clamp (by omega)]; exact ej) ?_
      refine zv_iale (bX7_down 1) rfl rfl (vp_in_nI (by omega) (by decide)) (show A 2 (nI j).toNatClampNeg = m2 by rw [nI_clamp (by omega)]; exact e2) ?_
      iterate 4 (refine zv_step (bX7_down 1) rfl rfl trivial ?_)
      refine zv_ift (by decide) ?_
      iterate 2 (refine zv_step (bX7_down 1) rfl rfl trivial ?_)
      refine zv_ift (by decide) ?_
      iterate 1 (refine zv_step (bX7_down 1) rfl rfl trivial ?_)
      exact zv_iret (bX7_down 1) rfl (Or.inr ⟨rfl, Or.inl rfl⟩) (Nat.zero_le _) (Nat.zero_le _) ⟨d, N, D, rfl, hr, Or.inr rfl⟩
    · skip
      iterate 6 (refine zv_step (bX7_down 1) rfl rfl trivial ?_)
      refine zv_iale (bX7_down 1) rfl rfl (vp_in_nI (by omega) (by decide)) (show N (nI d).toNatClampNeg = nI j by rw [nI_clamp (by omega)]; exact ej) ?_
      refine zv_iale (bX7_down 1) rfl rfl (vp_in_nI (by omega) (by decide)) (show A 2 (nI j).toNatClampNeg = nI a by rw [nI_clamp (by omega)]; exact e2) ?_
      iterate 4 (refine zv_step (bX7_down 1) rfl rfl trivial ?_)
      refine zv_iff (nI_pos (by omega)) ?_
      iterate 7 (refine zv_step (bX7_down 1) rfl rfl trivial ?_)
      refine zv_step (bX7_down 1) rfl rfl (show vp_in (nI d + Int32.ofInt 1) 41 by rw [show nI d + Int32.ofInt 1 = nI (d + 1) from nI_1 d]; exact vp_in_nI (by omega) (by decide)) ?_
      iterate 7 (refine zv_step (bX7_down 1) rfl rfl trivial ?_)
      refine zv_step (bX7_down 1) rfl rfl (show vp_in (nI d + Int32.ofInt 1) 41 by rw [show nI d + Int32.ofInt 1 = nI (d + 1) from nI_1 d]; exact vp_in_nI (by omega) (by decide)) ?_
      iterate 8 (refine zv_step (bX7_down 1) rfl rfl trivial ?_)
      refine zv_iff (nI_pos (by omega)) ?_
      iterate 2 (refine zv_step (bX7_down 1) rfl rfl trivial ?_)
      exact zv_iret (bX7_down 1) rfl (Or.inr ⟨rfl, Or.inr rfl⟩) (Nat.zero_le _) (Nat.zero_le _) ⟨d + 1, upd N (d + 1) (nI a), upd D (d + 1) x, by show wR f (upd o 33 (nI d + Int32.ofInt 1)) (updA (updA A 20 (upd N (nI d + Int32.ofInt 1).toNatClampNeg (nI a))) 21 (upd D (nI d + Int32.ofInt 1).toNatClampNeg x)) J = _; rw [e7, e8], rtM_set hr (by omega) (by omega), Or.inl rfl⟩
set_option maxHeartbeats 1000000 in
set_option maxRecDepth 20000 in
theorem whereL (f : Nat → zC) (o : Nat → Int32) (A : Nat → Nat → Int32) (J : Nat → Nat → Int64) {n0 : Nat} (x : Int32) : ∀ (k : Nat), k ≤ 40 → ∀ {x3 v : Int32}, x3 = nI k → zV (zMo 2 zX7_where) false n0 0 0 78 [(3, .int x3), (2, .int v), (0, .ref 76), (1, .int x)] [] (wR f (upd o 16 (Int32.ofInt 0)) A J) (fun r w' => ∃ (R t : Int32), r = some (.int R) ∧ w' = wR f (upd o 16 t) A J) := by
  intro k
  induction k with
  | zero =>
    intro hk x3 v e3
    subst e3
    iterate 2 (refine zv_step (bX7_where 2) rfl rfl trivial ?_)
    refine zv_ift (show nI 0 ≤ 0 by decide) ?_
    iterate 1 (refine zv_step (bX7_where 2) rfl rfl trivial ?_)
    exact zv_iret (bX7_where 2) rfl (Or.inl rfl) (Nat.zero_le _) (Nat.zero_le _) ⟨_, Int32.ofInt 0, rfl, rfl⟩
  | succ k ih =>
    intro hk x3 v e3
    subst e3
    iterate 2 (refine zv_step (bX7_where 2) rfl rfl trivial ?_)
    refine zv_iff (nI_nle (by omega) (by omega)) ?_
    iterate 6 (refine zv_step (bX7_where 2) rfl rfl trivial ?_)
    refine zv_step (bX7_where 2) rfl rfl (show vp_in (nI (k + 1)) 41 from vp_in_nI (by omega) (by decide)) ?_
    iterate 6 (refine zv_step (bX7_where 2) rfl rfl trivial ?_)
    refine zv_locals (l := [(3, .int (nI (k + 1) + Int32.ofInt (-1))), (2, .int (Int32.ofInt 3 * v + A 21 (nI (k + 1)).toNatClampNeg + Int32.ofInt 1)), (0, .ref 76), (1, .int x)]) (l' := [(3, .int (nI (k + 1) + Int32.ofInt (-1))), (2, .int (Int32.ofInt 3 * v + A 21 (nI (k + 1)).toNatClampNeg + Int32.ofInt 1)), (0, .ref 76), (1, .int x)]) (fun q h => h) (ih (by omega) (nI_dec k))
set_option maxHeartbeats 1000000 in
set_option maxRecDepth 20000 in
theorem mWhere (f : Nat → zC) (o : Nat → Int32) (A : Nat → Nat → Int32) (J : Nat → Nat → Int64) {d : Nat} (hd : d ≤ 39) (ho33 : o 33 = nI d) (x : Int32) : zK 2 zX7_where [.ref 76, .int x] (wR f o A J) (fun r w' => ∃ (R t : Int32), r = some (.int R) ∧ w' = wR f (upd o 16 t) A J) := by
  refine zK_of qX7_where (by decide +kernel) rfl ?_
  iterate 7 (refine zv_step (bX7_where 2) rfl rfl trivial ?_)
  refine zv_S3 (bX7_where 2) rfl rfl rfl rfl ⟨rfl, rfl, rfl⟩ ⟨by decide, by decide⟩ ⟨Nat.zero_le _, Nat.zero_le _⟩ (mIn _ _ _ _ (a := 0) (b := 2) (by decide) (by decide)) ?_
  rintro _ _ ⟨rfl, ⟨g1, rfl⟩ | ⟨g1, rfl⟩⟩
  · skip
    iterate 1 (refine zv_step (bX7_where 2) rfl rfl trivial ?_)
    refine zv_ift (by decide) ?_
    iterate 3 (refine zv_step (bX7_where 2) rfl rfl trivial ?_)
    refine zv_ifb (fun h23 => ?_) (fun h23 => ?_)
    · iterate 2 (refine zv_step (bX7_where 2) rfl rfl trivial ?_)
      refine zv_ifb (fun h30 => ?_) (fun h30 => ?_)
      · iterate 4 (refine zv_step (bX7_where 2) rfl rfl trivial ?_)
        refine zv_ifb (fun h61 => ?_) (fun h61 => ?_)
        · iterate 5 (refine zv_step (bX7_where 2) rfl rfl trivial ?_)
          exact whereL f o A J x d (by omega) ho33
        · iterate 4 (refine zv_step (bX7_where 2) rfl rfl trivial ?_)
          exact zv_iret (bX7_where 2) rfl (Or.inl rfl) (Nat.zero_le _) (Nat.zero_le _) ⟨_, Int32.ofInt 1, rfl, rfl⟩
      · iterate 3 (refine zv_step (bX7_where 2) rfl rfl trivial ?_)
        refine zv_ifb (fun h35 => ?_) (fun h35 => ?_)
        · iterate 4 (refine zv_step (bX7_where 2) rfl rfl trivial ?_)
          refine zv_step (bX7_where 2) rfl rfl (show vp_in (o 33) 41 by rw [ho33]; exact vp_in_nI (by omega) (by decide)) ?_
          exact zv_iret (bX7_where 2) rfl (Or.inl rfl) (Nat.zero_le _) (Nat.zero_le _) ⟨_, Int32.ofInt 0, rfl, rfl⟩
        · iterate 3 (refine zv_step (bX7_where 2) rfl rfl trivial ?_)
          exact zv_iret (bX7_where 2) rfl (Or.inl rfl) (Nat.zero_le _) (Nat.zero_le _) ⟨_, Int32.ofInt 0, rfl, rfl⟩
    · iterate 1 (refine zv_step (bX7_where 2) rfl rfl trivial ?_)
      exact zv_iret (bX7_where 2) rfl (Or.inl rfl) (Nat.zero_le _) (Nat.zero_le _) ⟨_, Int32.ofInt 0, rfl, rfl⟩
  · skip
    iterate 1 (refine zv_step (bX7_where 2) rfl rfl trivial ?_)
    refine zv_iff (by decide) ?_
    iterate 1 (refine zv_step (bX7_where 2) rfl rfl trivial ?_)
    exact zv_iret (bX7_where 2) rfl (Or.inl rfl) (Nat.zero_le _) (Nat.zero_le _) ⟨_, Int32.ofInt 0, rfl, rfl⟩
theorem div3 {x : Int32} (h : 0 < x.toInt) : (x / Int32.ofInt 3).toInt = x.toInt / 3 := by
  have h2 := Int32.toInt_lt x
  rw [Int32.toInt_div, show (Int32.ofInt 3).toInt = 3 from rfl, Int.tdiv_eq_ediv_of_nonneg (by omega)]
  exact Int.bmod_eq_of_le (by omega) (by omega)
set_option maxHeartbeats 1000000 in
set_option maxRecDepth 20000 in
theorem leadL2 (f : Nat → zC) (o : Nat → Int32) (A : Nat → Nat → Int32) (J : Nat → Nat → Int64) {u : Nat} (hu : u ≤ 120) (hT : tbI 0 u A) {t : Nat} (ht : t < u) {x y z : Int32} {n0 : Nat} : ∀ (c : Nat) (k : Int32), k.toInt ≤ c → ∀ {d : Nat} {N D : Nat → Int32}, d ≤ 39 → rtM A t d N → zV (zMo 2 zX7_lead) false n0 0 0 87 [(4, .int k), (3, .int z), (2, .int y), (0, .ref 76), (1, .int x)] [] (wR f (upd o 33 (nI d)) (updA (updA A 20 N) 21 D) J) (fun r w' => ∃ (d' : Nat) (N' D' : Nat → Int32) (R : Int32), r = some (.int R) ∧ w' = (wR f (upd o 33 (nI d')) (updA (updA A 20 N') 21 D') J) ∧ rtM A t d' N' ∧ d' ≤ 39) := by
  intro c
  induction c with
  | zero =>
    intro k hk d N D hd hr
    iterate 2 (refine zv_step (bX7_lead 2) rfl rfl trivial ?_)
    refine zv_ift (show k ≤ 0 by rw [Int32.le_iff_toInt_le, Int32.toInt_zero]; omega) ?_
    iterate 4 (refine zv_step (bX7_lead 2) rfl rfl trivial ?_)
    refine zv_step (bX7_lead 2) rfl rfl (show vp_in (nI d) 41 from vp_in_nI (by omega) (by decide)) ?_
    exact zv_iret (bX7_lead 2) rfl (Or.inl rfl) (Nat.zero_le _) (Nat.zero_le _) ⟨d, N, D, _, rfl, rfl, hr, hd⟩
  | succ c ih =>
    intro k hk d N D hd hr
    iterate 2 (refine zv_step (bX7_lead 2) rfl rfl trivial ?_)
    refine zv_ifb (fun h89 => ?_) (fun h89 => ?_)
    · iterate 4 (refine zv_step (bX7_lead 2) rfl rfl trivial ?_)
      refine zv_step (bX7_lead 2) rfl rfl (show vp_in (nI d) 41 from vp_in_nI (by omega) (by decide)) ?_
      exact zv_iret (bX7_lead 2) rfl (Or.inl rfl) (Nat.zero_le _) (Nat.zero_le _) ⟨d, N, D, _, rfl, rfl, hr, hd⟩
    · have k1 : 0 < k.toInt := by have h9 : ¬ k ≤ 0 := h89; rw [Int32.le_iff_toInt_le, Int32.toInt_zero] at h9; omega
      iterate 3 (refine zv_step (bX7_lead 2) rfl rfl trivial ?_)
      refine zv_step (bX7_lead 2) rfl rfl (show ¬ Int32.ofInt 3 = 0 by decide) ?_
      iterate 2 (refine zv_step (bX7_lead 2) rfl rfl trivial ?_)
      refine zv_V1 (bX7_lead 2) rfl rfl rfl rfl rfl rfl rfl ⟨rfl, rfl, rfl⟩ ⟨by decide, by decide⟩ ⟨Nat.zero_le _, Nat.zero_le _⟩ (mDown f o A J hu hT ht D hr _) ?_
      rintro _ _ ⟨d1, N1, D1, rfl, hr1, rfl | rfl⟩
      · have hd1 := rtM_d hT ht hr1
        iterate 3 (refine zv_step (bX7_lead 2) rfl rfl trivial ?_)
        refine zv_step (bX7_lead 2) rfl rfl (show ¬ Int32.ofInt 3 = 0 by decide) ?_
        iterate 2 (refine zv_step (bX7_lead 2) rfl rfl trivial ?_)
        refine zv_locals (l := [(4, .int (k / Int32.ofInt 3)), (5, .int 1), (3, .int z), (2, .int y), (0, .ref 76), (1, .int x)]) (l' := [(4, .int (k / Int32.ofInt 3)), (3, .int z), (2, .int y), (0, .ref 76), (1, .int x)]) ?_ (ih _ (by rw [div3 k1]; omega) hd1 hr1)
        simp
      · have hd1 := rtM_d hT ht hr1
        iterate 3 (refine zv_step (bX7_lead 2) rfl rfl trivial ?_)
        refine zv_step (bX7_lead 2) rfl rfl (show ¬ Int32.ofInt 3 = 0 by decide) ?_
        iterate 2 (refine zv_step (bX7_lead 2) rfl rfl trivial ?_)
        refine zv_locals (l := [(4, .int (k / Int32.ofInt 3)), (5, .int 0), (3, .int z), (2, .int y), (0, .ref 76), (1, .int x)]) (l' := [(4, .int (k / Int32.ofInt 3)), (3, .int z), (2, .int y), (0, .ref 76), (1, .int x)]) ?_ (ih _ (by rw [div3 k1]; omega) hd1 hr1)
        simp
theorem pq {u n : Nat} {A : Nat → Nat → Int32} (hT : tbI 0 u A) (hn : n < u) {x : Int32} (h : x = m2 ∨ ∃ a, x = nI a ∧ a < n ∧ szN A a + 1 ≤ szN A n) : x = m2 ∨ ∃ m : Nat, x = nI m ∧ m < u := h.imp id (fun ⟨a, e, ha, _⟩ => ⟨a, e, by omega⟩)
theorem zv_weak {M : zM} {al : Bool} {n0 kc ks pc : Nat} {l : zL} {st : List Value} {w : zW} {Q Q' : Option Value → zW → Prop} (h : ∀ r w, Q r w → Q' r w) (k : zV M al n0 kc ks pc l st w Q) : zV M al n0 kc ks pc l st w Q' := by
  intro p l0 e s m args below meth c dC dI dA ad0 A Z h9t hctx hfin ad H locs ls hrel hl
  exact k p l0 e s m args below meth c dC dI dA ad0 A Z h9t hctx (fun ad H locs kc ks pc ls v w a b => hfin ad H locs kc ks pc ls v w a (h v w b)) ad H locs ls hrel hl
set_option maxHeartbeats 1000000 in
set_option maxRecDepth 20000 in
theorem leadL1 (f : Nat → zC) (o : Nat → Int32) (A : Nat → Nat → Int32) (J : Nat → Nat → Int64) {u : Nat} (hu : u ≤ 120) (hT : tbI 0 u A) {t d : Nat} (ht : t < u) (hr : rtM A t d (A 20)) {x : Int32} {n0 : Nat} : ∀ (c : Nat) (k y : Int32), k.toInt ≤ c → (y = m2 ∨ ∃ n : Nat, y = nI n ∧ n < u) → zV (zMo 2 zX7_lead) false n0 0 0 19 [(3, .int k), (2, .int y), (0, .ref 76), (1, .int x)] [] (wR f o A J) (fun r w' => (∃ R : Int32, r = some (.int R)) ∧ (w' = (wR f o A J) ∨ ∃ (d' : Nat) (N' D' : Nat → Int32), w' = (wR f (upd o 33 (nI d')) (updA (updA A 20 N') 21 D') J) ∧ rtM A t d' N' ∧ d' ≤ 39)) := by
  intro c
  induction c with
  | zero =>
    intro k y hk hn
    rcases hn with rfl | ⟨n, rfl, hn⟩
    · iterate 2 (refine zv_step (bX7_lead 2) rfl rfl trivial ?_)
      refine zv_ift (by decide) ?_
      iterate 2 (refine zv_step (bX7_lead 2) rfl rfl trivial ?_)
      refine zv_ift (by decide) ?_
      iterate 1 (refine zv_step (bX7_lead 2) rfl rfl trivial ?_)
      exact zv_iret (bX7_lead 2) rfl (Or.inl rfl) (Nat.zero_le _) (Nat.zero_le _) ⟨⟨_, rfl⟩, Or.inl rfl⟩
    · obtain ⟨hq2, hq3⟩ := rN_dn (hT n (Nat.zero_le _) hn)
      iterate 2 (refine zv_step (bX7_lead 2) rfl rfl trivial ?_)
      refine zv_iff (nI_pos (by omega)) ?_
      iterate 2 (refine zv_step (bX7_lead 2) rfl rfl trivial ?_)
      refine zv_ift (show k ≤ 0 by rw [Int32.le_iff_toInt_le, Int32.toInt_zero]; omega) ?_
      iterate 2 (refine zv_step (bX7_lead 2) rfl rfl trivial ?_)
      refine zv_iff (nI_pos (by omega)) ?_
      iterate 2 (refine zv_step (bX7_lead 2) rfl rfl trivial ?_)
      refine zv_ifb (fun h74 => ?_) (fun h74 => ?_)
      · iterate 5 (refine zv_step (bX7_lead 2) rfl rfl trivial ?_)
        refine zv_world (show _ = (wR f (upd o 33 (nI 0)) (updA (updA A 20 (A 20)) 21 (A 21)) J) from rfl) ?_
        refine zv_locals (l := [(4, .int x), (3, .int k), (2, .int (nI n)), (0, .ref 76), (1, .int x)]) (l' := [(4, .int x), (3, .int k), (2, .int (nI n)), (0, .ref 76), (1, .int x)]) (fun q h => h) (zv_weak (fun r w q => ?_) (leadL2 f o A J hu hT ht x.toInt.toNat x (by omega) (by decide) (rtM_up hr (Nat.zero_le _))))
        obtain ⟨d1, N1, D1, R, e1, e2, e3, e4⟩ := q
        exact ⟨⟨R, e1⟩, Or.inr ⟨d1, N1, D1, e2, e3, e4⟩⟩
      · iterate 1 (refine zv_step (bX7_lead 2) rfl rfl trivial ?_)
        exact zv_iret (bX7_lead 2) rfl (Or.inl rfl) (Nat.zero_le _) (Nat.zero_le _) ⟨⟨_, rfl⟩, Or.inl rfl⟩
  | succ c ih =>
    intro k y hk hn
    rcases hn with rfl | ⟨n, rfl, hn⟩
    · iterate 2 (refine zv_step (bX7_lead 2) rfl rfl trivial ?_)
      refine zv_ift (by decide) ?_
      iterate 2 (refine zv_step (bX7_lead 2) rfl rfl trivial ?_)
      refine zv_ift (by decide) ?_
      iterate 1 (refine zv_step (bX7_lead 2) rfl rfl trivial ?_)
      exact zv_iret (bX7_lead 2) rfl (Or.inl rfl) (Nat.zero_le _) (Nat.zero_le _) ⟨⟨_, rfl⟩, Or.inl rfl⟩
    · obtain ⟨hq2, hq3⟩ := rN_dn (hT n (Nat.zero_le _) hn)
      iterate 2 (refine zv_step (bX7_lead 2) rfl rfl trivial ?_)
      refine zv_iff (nI_pos (by omega)) ?_
      iterate 2 (refine zv_step (bX7_lead 2) rfl rfl trivial ?_)
      refine zv_ifb (fun h24 => ?_) (fun h24 => ?_)
      · iterate 2 (refine zv_step (bX7_lead 2) rfl rfl trivial ?_)
        refine zv_iff (nI_pos (by omega)) ?_
        iterate 2 (refine zv_step (bX7_lead 2) rfl rfl trivial ?_)
        refine zv_ifb (fun h74 => ?_) (fun h74 => ?_)
        · iterate 5 (refine zv_step (bX7_lead 2) rfl rfl trivial ?_)
          refine zv_world (show _ = (wR f (upd o 33 (nI 0)) (updA (updA A 20 (A 20)) 21 (A 21)) J) from rfl) ?_
          refine zv_locals (l := [(4, .int x), (3, .int k), (2, .int (nI n)), (0, .ref 76), (1, .int x)]) (l' := [(4, .int x), (3, .int k), (2, .int (nI n)), (0, .ref 76), (1, .int x)]) (fun q h => h) (zv_weak (fun r w q => ?_) (leadL2 f o A J hu hT ht x.toInt.toNat x (by omega) (by decide) (rtM_up hr (Nat.zero_le _))))
          obtain ⟨d1, N1, D1, R, e1, e2, e3, e4⟩ := q
          exact ⟨⟨R, e1⟩, Or.inr ⟨d1, N1, D1, e2, e3, e4⟩⟩
        · iterate 1 (refine zv_step (bX7_lead 2) rfl rfl trivial ?_)
          exact zv_iret (bX7_lead 2) rfl (Or.inl rfl) (Nat.zero_le _) (Nat.zero_le _) ⟨⟨_, rfl⟩, Or.inl rfl⟩
      · have k1 : 0 < k.toInt := by have h9 : ¬ k ≤ 0 := h24; rw [Int32.le_iff_toInt_le, Int32.toInt_zero] at h9; omega
        iterate 2 (refine zv_step (bX7_lead 2) rfl rfl trivial ?_)
        refine zv_step (bX7_lead 2) rfl rfl (show ¬ Int32.ofInt 3 = 0 by decide) ?_
        iterate 2 (refine zv_step (bX7_lead 2) rfl rfl trivial ?_)
        refine zv_ifb (fun h31 => ?_) (fun h31 => ?_)
        · iterate 2 (refine zv_step (bX7_lead 2) rfl rfl trivial ?_)
          refine zv_step (bX7_lead 2) rfl rfl (show ¬ Int32.ofInt 3 = 0 by decide) ?_
          iterate 2 (refine zv_step (bX7_lead 2) rfl rfl trivial ?_)
          refine zv_ifb (fun h47 => ?_) (fun h47 => ?_)
          · iterate 4 (refine zv_step (bX7_lead 2) rfl rfl trivial ?_)
            refine zv_step (bX7_lead 2) rfl rfl (show ¬ Int32.ofInt 3 = 0 by decide) ?_
            iterate 2 (refine zv_step (bX7_lead 2) rfl rfl trivial ?_)
            refine zv_locals (l := [(3, .int (k / Int32.ofInt 3)), (2, .int (m2)), (0, .ref 76), (1, .int x)]) (l' := [(3, .int (k / Int32.ofInt 3)), (2, .int (m2)), (0, .ref 76), (1, .int x)]) ?_ (ih _ _ (by rw [div3 k1]; omega) (Or.inl rfl))
            simp
          · iterate 3 (refine zv_step (bX7_lead 2) rfl rfl trivial ?_)
            refine zv_iale (bX7_lead 2) rfl rfl (vp_in_nI (by omega) (by decide)) (show A 3 (nI n).toNatClampNeg = A 3 n by rw [nI_clamp (by omega)]) ?_
            iterate 4 (refine zv_step (bX7_lead 2) rfl rfl trivial ?_)
            refine zv_step (bX7_lead 2) rfl rfl (show ¬ Int32.ofInt 3 = 0 by decide) ?_
            iterate 2 (refine zv_step (bX7_lead 2) rfl rfl trivial ?_)
            refine zv_locals (l := [(3, .int (k / Int32.ofInt 3)), (2, .int (A 3 n)), (0, .ref 76), (1, .int x)]) (l' := [(3, .int (k / Int32.ofInt 3)), (2, .int (A 3 n)), (0, .ref 76), (1, .int x)]) ?_ (ih _ _ (by rw [div3 k1]; omega) (pq hT hn hq3))
            simp
        · iterate 3 (refine zv_step (bX7_lead 2) rfl rfl trivial ?_)
          refine zv_iale (bX7_lead 2) rfl rfl (vp_in_nI (by omega) (by decide)) (show A 2 (nI n).toNatClampNeg = A 2 n by rw [nI_clamp (by omega)]) ?_
          iterate 4 (refine zv_step (bX7_lead 2) rfl rfl trivial ?_)
          refine zv_step (bX7_lead 2) rfl rfl (show ¬ Int32.ofInt 3 = 0 by decide) ?_
          iterate 2 (refine zv_step (bX7_lead 2) rfl rfl trivial ?_)
          refine zv_locals (l := [(3, .int (k / Int32.ofInt 3)), (2, .int (A 2 n)), (0, .ref 76), (1, .int x)]) (l' := [(3, .int (k / Int32.ofInt 3)), (2, .int (A 2 n)), (0, .ref 76), (1, .int x)]) ?_ (ih _ _ (by rw [div3 k1]; omega) (pq hT hn hq2))
          simp
set_option maxHeartbeats 1000000 in
set_option maxRecDepth 20000 in
theorem mGlance (f : Nat → zC) (o : Nat → Int32) (A : Nat → Nat → Int32) (J : Nat → Nat → Int64) {u : Nat} (hu : u ≤ 120) (hT : tbI 0 u A) {d : Nat} (hd : d ≤ 39) (ho33 : o 33 = nI d) (hb : o 30 = 0 ∨ o 30 = 1) (hr : o 30 = 1 → ∃ t, t < u ∧ rtM A t d (A 20)) (x y : Int32) : zK 43 zX7_glance [.ref 76, .int x, .int y] (wR f o A J) (fun r w' => w' = (wR f o A J) ∧ ∃ v : Int32, r = some (.int v)) := by
  refine zK_of qX7_glance (by decide +kernel) rfl ?_
  iterate 1 (refine zv_step (bX7_glance 43) rfl rfl trivial ?_)
  refine zv_S1 (bX7_glance 43) rfl rfl rfl rfl ⟨rfl, rfl, rfl⟩ ⟨by decide, by decide⟩ ⟨Nat.zero_le _, Nat.zero_le _⟩ (hX7_isStyle _ _) ?_
  rintro _ _ ⟨rfl, ⟨g1, rfl⟩ | ⟨g1, rfl⟩⟩
  · obtain ⟨s, hs, rfl⟩ := in_nat (x := x) (b := 7) (by decide) g1
    iterate 1 (refine zv_step (bX7_glance 43) rfl rfl trivial ?_)
    refine zv_iff (by decide) ?_
    iterate 4 (refine zv_step (bX7_glance 43) rfl rfl trivial ?_)
    refine zv_S3 (bX7_glance 43) rfl rfl rfl rfl ⟨rfl, rfl, rfl⟩ ⟨by decide, by decide⟩ ⟨Nat.zero_le _, Nat.zero_le _⟩ (mIn _ _ _ _ (a := 0) (b := 9) (by decide) (by decide)) ?_
    rintro _ _ ⟨rfl, ⟨g2, rfl⟩ | ⟨g2, rfl⟩⟩
    · skip
      iterate 1 (refine zv_step (bX7_glance 43) rfl rfl trivial ?_)
      refine zv_ift (by decide) ?_
      iterate 3 (refine zv_step (bX7_glance 43) rfl rfl trivial ?_)
      refine zv_ifb (fun h25 => ?_) (fun h25 => ?_)
      · obtain ⟨t, ht, hr0⟩ := hr (hb.resolve_left h25)
        obtain ⟨j, hj, ej, hz⟩ := hr0.2 d (Nat.le_refl _)
        iterate 6 (refine zv_step (bX7_glance 43) rfl rfl trivial ?_)
        refine zv_iale (bX7_glance 43) rfl rfl (show vp_in (o 33) 41 by rw [ho33]; exact vp_in_nI (by omega) (by decide)) (show A 20 (o 33).toNatClampNeg = nI j by rw [ho33, nI_clamp (by omega)]; exact ej) ?_
        iterate 1 (refine zv_step (bX7_glance 43) rfl rfl trivial ?_)
        refine zv_V3 (bX7_glance 43) rfl rfl rfl rfl rfl rfl rfl ⟨rfl, rfl, rfl⟩ ⟨by decide, by decide⟩ ⟨Nat.zero_le _, Nat.zero_le _⟩ (mGlanced f o A J (by omega) hT (by omega) 40 _ _ (pt_of hT (Nat.zero_le _) (by omega))) ?_
        rintro _ _ ⟨rfl, v, rfl⟩
        iterate 4 (refine zv_step (bX7_glance 43) rfl rfl trivial ?_)
        refine zv_ifb (fun h50 => ?_) (fun h50 => ?_)
        · iterate 1 (refine zv_step (bX7_glance 43) rfl rfl trivial ?_)
          exact zv_iret (bX7_glance 43) rfl (Or.inl rfl) (Nat.zero_le _) (Nat.zero_le _) ⟨rfl, _, rfl⟩
        · iterate 2 (refine zv_step (bX7_glance 43) rfl rfl trivial ?_)
          exact zv_iret (bX7_glance 43) rfl (Or.inl rfl) (Nat.zero_le _) (Nat.zero_le _) ⟨rfl, _, rfl⟩
      · iterate 1 (refine zv_step (bX7_glance 43) rfl rfl trivial ?_)
        exact zv_iret (bX7_glance 43) rfl (Or.inl rfl) (Nat.zero_le _) (Nat.zero_le _) ⟨rfl, _, rfl⟩
    · skip
      iterate 1 (refine zv_step (bX7_glance 43) rfl rfl trivial ?_)
      refine zv_iff (by decide) ?_
      iterate 1 (refine zv_step (bX7_glance 43) rfl rfl trivial ?_)
      exact zv_iret (bX7_glance 43) rfl (Or.inl rfl) (Nat.zero_le _) (Nat.zero_le _) ⟨rfl, _, rfl⟩
  · skip
    iterate 1 (refine zv_step (bX7_glance 43) rfl rfl trivial ?_)
    refine zv_ift (by decide) ?_
    iterate 1 (refine zv_step (bX7_glance 43) rfl rfl trivial ?_)
    exact zv_iret (bX7_glance 43) rfl (Or.inl rfl) (Nat.zero_le _) (Nat.zero_le _) ⟨rfl, _, rfl⟩
end
section
/-- NODES of one KIND have PARTS alike -/
theorem rN_same {lo n m : Nat} {A : Nat → Nat → Int32} (h : rN lo A n) (k : rN lo A m) (e : A 0 n = A 0 m) : ((A 2 n = m2 ∧ A 2 m = m2) ∨ ∃ a b : Nat, A 2 n = nI a ∧ A 2 m = nI b ∧ lo ≤ a ∧ a < n ∧ lo ≤ b ∧ b < m ∧ szN A a + 1 ≤ szN A n) ∧ ((A 3 n = m2 ∧ A 3 m = m2) ∨ ∃ a b : Nat, A 3 n = nI a ∧ A 3 m = nI b ∧ lo ≤ a ∧ a < n ∧ lo ≤ b ∧ b < m ∧ szN A a + 1 ≤ szN A n) := by
  obtain ⟨k1, y1, f0, l1, h4, hy, hs, _⟩ := h
  obtain ⟨k2, y2, g0, l2, i4, iy, is, _⟩ := k
  rw [f0, g0, nI_eq (by omega) (by omega)] at e
  subst e
  rw [szN_of h4 hy]
  rcases hs with ⟨c1, h2, h3, e1⟩ | ⟨c1, c2, a, b, h2, la, ha, h3, lb, hb, e1⟩ | ⟨c1, a, h2, la, ha, h3, e1⟩ <;> rcases is with ⟨d1, i2, i3, e2⟩ | ⟨d1, d2, a', b', i2, la', ha', i3, lb', hb', e2⟩ | ⟨d1, a', i2, la', ha', i3, e2⟩
  · exact ⟨Or.inl ⟨h2, i2⟩, Or.inl ⟨h3, i3⟩⟩
  · omega
  · omega
  · omega
  · exact ⟨Or.inr ⟨a, a', h2, i2, la, ha, la', ha', by omega⟩, Or.inr ⟨b, b', h3, i3, lb, hb, lb', hb', by omega⟩⟩
  · omega
  · omega
  · omega
  · exact ⟨Or.inr ⟨a, a', h2, i2, la, ha, la', ha', by omega⟩, Or.inl ⟨h3, i3⟩⟩
set_option maxHeartbeats 1000000 in
set_option maxRecDepth 20000 in
theorem mInside (f : Nat → zC) (o : Nat → Int32) (A : Nat → Nat → Int32) (J : Nat → Nat → Int64) {lo hi : Nat} (hh : hi ≤ 450) (hT : tbI lo hi A) {z : Nat} (ih : ∀ (n m : Nat), lo ≤ n → n < hi → lo ≤ m → m < hi → szN A n ≤ z → zK (2 * z + 1) zX7_difference [.ref 76, .int (nI n), .int (nI m)] (wR f o A J) (fun r w' => w' = (wR f o A J) ∧ ∃ v : Int32, r = some (.int v))) {n m : Nat} (hlo : lo ≤ n) (hn : n < hi) (hlo2 : lo ≤ m) (hm : m < hi) (hz : szN A n ≤ z + 1) (hk : A 0 n = A 0 m) : zK (2 * z + 2) zX7_inside [.ref 76, .int (nI n), .int (nI m)] (wR f o A J) (fun r w' => w' = (wR f o A J) ∧ ∃ v : Int32, r = some (.int v)) := by
  obtain ⟨s2, s3⟩ := rN_same (hT n hlo hn) (hT m hlo2 hm) hk
  refine zK_of qX7_inside (by decide +kernel) rfl ?_
  iterate 3 (refine zv_step (bX7_inside (2 * z + 2)) rfl rfl trivial ?_)
  refine zv_iale (bX7_inside (2 * z + 2)) rfl rfl (vp_in_nI (by omega) (by decide)) (show A 1 (nI n).toNatClampNeg = A 1 n by rw [nI_clamp (by omega)]) ?_
  iterate 3 (refine zv_step (bX7_inside (2 * z + 2)) rfl rfl trivial ?_)
  refine zv_iale (bX7_inside (2 * z + 2)) rfl rfl (vp_in_nI (by omega) (by decide)) (show A 1 (nI m).toNatClampNeg = A 1 m by rw [nI_clamp (by omega)]) ?_
  iterate 1 (refine zv_step (bX7_inside (2 * z + 2)) rfl rfl trivial ?_)
  refine zv_ifb (fun h12 => ?_) (fun h12 => ?_)
  · iterate 3 (refine zv_step (bX7_inside (2 * z + 2)) rfl rfl trivial ?_)
    rcases s2 with ⟨e2, f2⟩ | ⟨a, b, e2, f2, la, ha, lb, hb, hza⟩
    · skip
      iterate 3 (refine zv_step (bX7_inside (2 * z + 2)) rfl rfl trivial ?_)
      refine zv_iale (bX7_inside (2 * z + 2)) rfl rfl (vp_in_nI (by omega) (by decide)) (show A 2 (nI n).toNatClampNeg = m2 by rw [nI_clamp (by omega)]; exact e2) ?_
      iterate 1 (refine zv_step (bX7_inside (2 * z + 2)) rfl rfl trivial ?_)
      refine zv_iff (by decide) ?_
      iterate 3 (refine zv_step (bX7_inside (2 * z + 2)) rfl rfl trivial ?_)
      rcases s3 with ⟨e2, f2⟩ | ⟨a, b, e2, f2, la, ha, lb, hb, hza⟩
      · skip
        iterate 3 (refine zv_step (bX7_inside (2 * z + 2)) rfl rfl trivial ?_)
        refine zv_iale (bX7_inside (2 * z + 2)) rfl rfl (vp_in_nI (by omega) (by decide)) (show A 3 (nI n).toNatClampNeg = m2 by rw [nI_clamp (by omega)]; exact e2) ?_
        iterate 1 (refine zv_step (bX7_inside (2 * z + 2)) rfl rfl trivial ?_)
        refine zv_iff (by decide) ?_
        iterate 3 (refine zv_step (bX7_inside (2 * z + 2)) rfl rfl trivial ?_)
        exact zv_iret (bX7_inside (2 * z + 2)) rfl (Or.inl rfl) (Nat.zero_le _) (Nat.zero_le _) ⟨rfl, _, rfl⟩
      · skip
        iterate 3 (refine zv_step (bX7_inside (2 * z + 2)) rfl rfl trivial ?_)
        refine zv_iale (bX7_inside (2 * z + 2)) rfl rfl (vp_in_nI (by omega) (by decide)) (show A 3 (nI n).toNatClampNeg = nI a by rw [nI_clamp (by omega)]; exact e2) ?_
        iterate 1 (refine zv_step (bX7_inside (2 * z + 2)) rfl rfl trivial ?_)
        refine zv_ift (nI_pos' (by omega)) ?_
        iterate 4 (refine zv_step (bX7_inside (2 * z + 2)) rfl rfl trivial ?_)
        refine zv_iale (bX7_inside (2 * z + 2)) rfl rfl (vp_in_nI (by omega) (by decide)) (show A 3 (nI n).toNatClampNeg = nI a by rw [nI_clamp (by omega)]; exact e2) ?_
        iterate 3 (refine zv_step (bX7_inside (2 * z + 2)) rfl rfl trivial ?_)
        refine zv_iale (bX7_inside (2 * z + 2)) rfl rfl (vp_in_nI (by omega) (by decide)) (show A 3 (nI m).toNatClampNeg = nI b by rw [nI_clamp (by omega)]; exact f2) ?_
        refine zv_V2 (bX7_inside (2 * z + 2)) rfl rfl rfl rfl rfl rfl rfl ⟨rfl, rfl, rfl⟩ ⟨by show 2 * z + 1 + 1 ≤ 2 * z + 2; omega, by show 8 + (5 + 11) + 64 * (2 * z + 1) ≤ 64 * (2 * z + 2); omega⟩ ⟨Nat.zero_le _, Nat.zero_le _⟩ (ih a b (by omega) (by omega) (by omega) (by omega) (by omega)) ?_
        rintro _ _ ⟨rfl, v78, rfl⟩
        iterate 1 (refine zv_step (bX7_inside (2 * z + 2)) rfl rfl trivial ?_)
        exact zv_iret (bX7_inside (2 * z + 2)) rfl (Or.inl rfl) (Nat.zero_le _) (Nat.zero_le _) ⟨rfl, _, rfl⟩
    · skip
      iterate 3 (refine zv_step (bX7_inside (2 * z + 2)) rfl rfl trivial ?_)
      refine zv_iale (bX7_inside (2 * z + 2)) rfl rfl (vp_in_nI (by omega) (by decide)) (show A 2 (nI n).toNatClampNeg = nI a by rw [nI_clamp (by omega)]; exact e2) ?_
      iterate 1 (refine zv_step (bX7_inside (2 * z + 2)) rfl rfl trivial ?_)
      refine zv_ift (nI_pos' (by omega)) ?_
      iterate 4 (refine zv_step (bX7_inside (2 * z + 2)) rfl rfl trivial ?_)
      refine zv_iale (bX7_inside (2 * z + 2)) rfl rfl (vp_in_nI (by omega) (by decide)) (show A 2 (nI n).toNatClampNeg = nI a by rw [nI_clamp (by omega)]; exact e2) ?_
      iterate 3 (refine zv_step (bX7_inside (2 * z + 2)) rfl rfl trivial ?_)
      refine zv_iale (bX7_inside (2 * z + 2)) rfl rfl (vp_in_nI (by omega) (by decide)) (show A 2 (nI m).toNatClampNeg = nI b by rw [nI_clamp (by omega)]; exact f2) ?_
      refine zv_V2 (bX7_inside (2 * z + 2)) rfl rfl rfl rfl rfl rfl rfl ⟨rfl, rfl, rfl⟩ ⟨by show 2 * z + 1 + 1 ≤ 2 * z + 2; omega, by show 8 + (5 + 11) + 64 * (2 * z + 1) ≤ 64 * (2 * z + 2); omega⟩ ⟨Nat.zero_le _, Nat.zero_le _⟩ (ih a b (by omega) (by omega) (by omega) (by omega) (by omega)) ?_
      rintro _ _ ⟨rfl, v48, rfl⟩
      iterate 1 (refine zv_step (bX7_inside (2 * z + 2)) rfl rfl trivial ?_)
      rcases s3 with ⟨e2, f2⟩ | ⟨a, b, e2, f2, la, ha, lb, hb, hza⟩
      · skip
        iterate 3 (refine zv_step (bX7_inside (2 * z + 2)) rfl rfl trivial ?_)
        refine zv_iale (bX7_inside (2 * z + 2)) rfl rfl (vp_in_nI (by omega) (by decide)) (show A 3 (nI n).toNatClampNeg = m2 by rw [nI_clamp (by omega)]; exact e2) ?_
        iterate 1 (refine zv_step (bX7_inside (2 * z + 2)) rfl rfl trivial ?_)
        refine zv_iff (by decide) ?_
        iterate 3 (refine zv_step (bX7_inside (2 * z + 2)) rfl rfl trivial ?_)
        exact zv_iret (bX7_inside (2 * z + 2)) rfl (Or.inl rfl) (Nat.zero_le _) (Nat.zero_le _) ⟨rfl, _, rfl⟩
      · skip
        iterate 3 (refine zv_step (bX7_inside (2 * z + 2)) rfl rfl trivial ?_)
        refine zv_iale (bX7_inside (2 * z + 2)) rfl rfl (vp_in_nI (by omega) (by decide)) (show A 3 (nI n).toNatClampNeg = nI a by rw [nI_clamp (by omega)]; exact e2) ?_
        iterate 1 (refine zv_step (bX7_inside (2 * z + 2)) rfl rfl trivial ?_)
        refine zv_ift (nI_pos' (by omega)) ?_
        iterate 4 (refine zv_step (bX7_inside (2 * z + 2)) rfl rfl trivial ?_)
        refine zv_iale (bX7_inside (2 * z + 2)) rfl rfl (vp_in_nI (by omega) (by decide)) (show A 3 (nI n).toNatClampNeg = nI a by rw [nI_clamp (by omega)]; exact e2) ?_
        iterate 3 (refine zv_step (bX7_inside (2 * z + 2)) rfl rfl trivial ?_)
        refine zv_iale (bX7_inside (2 * z + 2)) rfl rfl (vp_in_nI (by omega) (by decide)) (show A 3 (nI m).toNatClampNeg = nI b by rw [nI_clamp (by omega)]; exact f2) ?_
        refine zv_V2 (bX7_inside (2 * z + 2)) rfl rfl rfl rfl rfl rfl rfl ⟨rfl, rfl, rfl⟩ ⟨by show 2 * z + 1 + 1 ≤ 2 * z + 2; omega, by show 8 + (5 + 11) + 64 * (2 * z + 1) ≤ 64 * (2 * z + 2); omega⟩ ⟨Nat.zero_le _, Nat.zero_le _⟩ (ih a b (by omega) (by omega) (by omega) (by omega) (by omega)) ?_
        rintro _ _ ⟨rfl, v78, rfl⟩
        iterate 1 (refine zv_step (bX7_inside (2 * z + 2)) rfl rfl trivial ?_)
        exact zv_iret (bX7_inside (2 * z + 2)) rfl (Or.inl rfl) (Nat.zero_le _) (Nat.zero_le _) ⟨rfl, _, rfl⟩
  · iterate 4 (refine zv_step (bX7_inside (2 * z + 2)) rfl rfl trivial ?_)
    rcases s2 with ⟨e2, f2⟩ | ⟨a, b, e2, f2, la, ha, lb, hb, hza⟩
    · skip
      iterate 3 (refine zv_step (bX7_inside (2 * z + 2)) rfl rfl trivial ?_)
      refine zv_iale (bX7_inside (2 * z + 2)) rfl rfl (vp_in_nI (by omega) (by decide)) (show A 2 (nI n).toNatClampNeg = m2 by rw [nI_clamp (by omega)]; exact e2) ?_
      iterate 1 (refine zv_step (bX7_inside (2 * z + 2)) rfl rfl trivial ?_)
      refine zv_iff (by decide) ?_
      iterate 3 (refine zv_step (bX7_inside (2 * z + 2)) rfl rfl trivial ?_)
      rcases s3 with ⟨e2, f2⟩ | ⟨a, b, e2, f2, la, ha, lb, hb, hza⟩
      · skip
        iterate 3 (refine zv_step (bX7_inside (2 * z + 2)) rfl rfl trivial ?_)
        refine zv_iale (bX7_inside (2 * z + 2)) rfl rfl (vp_in_nI (by omega) (by decide)) (show A 3 (nI n).toNatClampNeg = m2 by rw [nI_clamp (by omega)]; exact e2) ?_
        iterate 1 (refine zv_step (bX7_inside (2 * z + 2)) rfl rfl trivial ?_)
        refine zv_iff (by decide) ?_
        iterate 3 (refine zv_step (bX7_inside (2 * z + 2)) rfl rfl trivial ?_)
        exact zv_iret (bX7_inside (2 * z + 2)) rfl (Or.inl rfl) (Nat.zero_le _) (Nat.zero_le _) ⟨rfl, _, rfl⟩
      · skip
        iterate 3 (refine zv_step (bX7_inside (2 * z + 2)) rfl rfl trivial ?_)
        refine zv_iale (bX7_inside (2 * z + 2)) rfl rfl (vp_in_nI (by omega) (by decide)) (show A 3 (nI n).toNatClampNeg = nI a by rw [nI_clamp (by omega)]; exact e2) ?_
        iterate 1 (refine zv_step (bX7_inside (2 * z + 2)) rfl rfl trivial ?_)
        refine zv_ift (nI_pos' (by omega)) ?_
        iterate 4 (refine zv_step (bX7_inside (2 * z + 2)) rfl rfl trivial ?_)
        refine zv_iale (bX7_inside (2 * z + 2)) rfl rfl (vp_in_nI (by omega) (by decide)) (show A 3 (nI n).toNatClampNeg = nI a by rw [nI_clamp (by omega)]; exact e2) ?_
        iterate 3 (refine zv_step (bX7_inside (2 * z + 2)) rfl rfl trivial ?_)
        refine zv_iale (bX7_inside (2 * z + 2)) rfl rfl (vp_in_nI (by omega) (by decide)) (show A 3 (nI m).toNatClampNeg = nI b by rw [nI_clamp (by omega)]; exact f2) ?_
        refine zv_V2 (bX7_inside (2 * z + 2)) rfl rfl rfl rfl rfl rfl rfl ⟨rfl, rfl, rfl⟩ ⟨by show 2 * z + 1 + 1 ≤ 2 * z + 2; omega, by show 8 + (5 + 11) + 64 * (2 * z + 1) ≤ 64 * (2 * z + 2); omega⟩ ⟨Nat.zero_le _, Nat.zero_le _⟩ (ih a b (by omega) (by omega) (by omega) (by omega) (by omega)) ?_
        rintro _ _ ⟨rfl, v78, rfl⟩
        iterate 1 (refine zv_step (bX7_inside (2 * z + 2)) rfl rfl trivial ?_)
        exact zv_iret (bX7_inside (2 * z + 2)) rfl (Or.inl rfl) (Nat.zero_le _) (Nat.zero_le _) ⟨rfl, _, rfl⟩
    · skip
      iterate 3 (refine zv_step (bX7_inside (2 * z + 2)) rfl rfl trivial ?_)
      refine zv_iale (bX7_inside (2 * z + 2)) rfl rfl (vp_in_nI (by omega) (by decide)) (show A 2 (nI n).toNatClampNeg = nI a by rw [nI_clamp (by omega)]; exact e2) ?_
      iterate 1 (refine zv_step (bX7_inside (2 * z + 2)) rfl rfl trivial ?_)
      refine zv_ift (nI_pos' (by omega)) ?_
      iterate 4 (refine zv_step (bX7_inside (2 * z + 2)) rfl rfl trivial ?_)
      refine zv_iale (bX7_inside (2 * z + 2)) rfl rfl (vp_in_nI (by omega) (by decide)) (show A 2 (nI n).toNatClampNeg = nI a by rw [nI_clamp (by omega)]; exact e2) ?_
      iterate 3 (refine zv_step (bX7_inside (2 * z + 2)) rfl rfl trivial ?_)
      refine zv_iale (bX7_inside (2 * z + 2)) rfl rfl (vp_in_nI (by omega) (by decide)) (show A 2 (nI m).toNatClampNeg = nI b by rw [nI_clamp (by omega)]; exact f2) ?_
      refine zv_V2 (bX7_inside (2 * z + 2)) rfl rfl rfl rfl rfl rfl rfl ⟨rfl, rfl, rfl⟩ ⟨by show 2 * z + 1 + 1 ≤ 2 * z + 2; omega, by show 8 + (5 + 11) + 64 * (2 * z + 1) ≤ 64 * (2 * z + 2); omega⟩ ⟨Nat.zero_le _, Nat.zero_le _⟩ (ih a b (by omega) (by omega) (by omega) (by omega) (by omega)) ?_
      rintro _ _ ⟨rfl, v48, rfl⟩
      iterate 1 (refine zv_step (bX7_inside (2 * z + 2)) rfl rfl trivial ?_)
      rcases s3 with ⟨e2, f2⟩ | ⟨a, b, e2, f2, la, ha, lb, hb, hza⟩
      · skip
        iterate 3 (refine zv_step (bX7_inside (2 * z + 2)) rfl rfl trivial ?_)
        refine zv_iale (bX7_inside (2 * z + 2)) rfl rfl (vp_in_nI (by omega) (by decide)) (show A 3 (nI n).toNatClampNeg = m2 by rw [nI_clamp (by omega)]; exact e2) ?_
        iterate 1 (refine zv_step (bX7_inside (2 * z + 2)) rfl rfl trivial ?_)
        refine zv_iff (by decide) ?_
        iterate 3 (refine zv_step (bX7_inside (2 * z + 2)) rfl rfl trivial ?_)
        exact zv_iret (bX7_inside (2 * z + 2)) rfl (Or.inl rfl) (Nat.zero_le _) (Nat.zero_le _) ⟨rfl, _, rfl⟩
      · skip
        iterate 3 (refine zv_step (bX7_inside (2 * z + 2)) rfl rfl trivial ?_)
        refine zv_iale (bX7_inside (2 * z + 2)) rfl rfl (vp_in_nI (by omega) (by decide)) (show A 3 (nI n).toNatClampNeg = nI a by rw [nI_clamp (by omega)]; exact e2) ?_
        iterate 1 (refine zv_step (bX7_inside (2 * z + 2)) rfl rfl trivial ?_)
        refine zv_ift (nI_pos' (by omega)) ?_
        iterate 4 (refine zv_step (bX7_inside (2 * z + 2)) rfl rfl trivial ?_)
        refine zv_iale (bX7_inside (2 * z + 2)) rfl rfl (vp_in_nI (by omega) (by decide)) (show A 3 (nI n).toNatClampNeg = nI a by rw [nI_clamp (by omega)]; exact e2) ?_
        iterate 3 (refine zv_step (bX7_inside (2 * z + 2)) rfl rfl trivial ?_)
        refine zv_iale (bX7_inside (2 * z + 2)) rfl rfl (vp_in_nI (by omega) (by decide)) (show A 3 (nI m).toNatClampNeg = nI b by rw [nI_clamp (by omega)]; exact f2) ?_
        refine zv_V2 (bX7_inside (2 * z + 2)) rfl rfl rfl rfl rfl rfl rfl ⟨rfl, rfl, rfl⟩ ⟨by show 2 * z + 1 + 1 ≤ 2 * z + 2; omega, by show 8 + (5 + 11) + 64 * (2 * z + 1) ≤ 64 * (2 * z + 2); omega⟩ ⟨Nat.zero_le _, Nat.zero_le _⟩ (ih a b (by omega) (by omega) (by omega) (by omega) (by omega)) ?_
        rintro _ _ ⟨rfl, v78, rfl⟩
        iterate 1 (refine zv_step (bX7_inside (2 * z + 2)) rfl rfl trivial ?_)
        exact zv_iret (bX7_inside (2 * z + 2)) rfl (Or.inl rfl) (Nat.zero_le _) (Nat.zero_le _) ⟨rfl, _, rfl⟩
set_option maxHeartbeats 1000000 in
set_option maxRecDepth 20000 in
theorem mDiff (f : Nat → zC) (o : Nat → Int32) (A : Nat → Nat → Int32) (J : Nat → Nat → Int64) {lo hi : Nat} (hh : hi ≤ 450) (hT : tbI lo hi A) : ∀ (z n m : Nat), lo ≤ n → n < hi → lo ≤ m → m < hi → szN A n ≤ z → zK (2 * z + 1) zX7_difference [.ref 76, .int (nI n), .int (nI m)] (wR f o A J) (fun r w' => w' = (wR f o A J) ∧ ∃ v : Int32, r = some (.int v)) := by
  intro z
  induction z with
  | zero =>
    intro n m hlo hn _ _ hz
    have := (rN_sz (hT n hlo hn)).1
    omega
  | succ z ih =>
    intro n m hlo hn hlo2 hm hz
    refine zK_of qX7_difference (by decide +kernel) rfl ?_
    iterate 3 (refine zv_step (bX7_difference (2 * (z + 1) + 1)) rfl rfl trivial ?_)
    refine zv_iale (bX7_difference (2 * (z + 1) + 1)) rfl rfl (vp_in_nI (by omega) (by decide)) (show A 4 (nI n).toNatClampNeg = A 4 n by rw [nI_clamp (by omega)]) ?_
    iterate 3 (refine zv_step (bX7_difference (2 * (z + 1) + 1)) rfl rfl trivial ?_)
    refine zv_iale (bX7_difference (2 * (z + 1) + 1)) rfl rfl (vp_in_nI (by omega) (by decide)) (show A 4 (nI m).toNatClampNeg = A 4 m by rw [nI_clamp (by omega)]) ?_
    iterate 5 (refine zv_step (bX7_difference (2 * (z + 1) + 1)) rfl rfl trivial ?_)
    refine zv_iale (bX7_difference (2 * (z + 1) + 1)) rfl rfl (vp_in_nI (by omega) (by decide)) (show A 0 (nI n).toNatClampNeg = A 0 n by rw [nI_clamp (by omega)]) ?_
    iterate 3 (refine zv_step (bX7_difference (2 * (z + 1) + 1)) rfl rfl trivial ?_)
    refine zv_iale (bX7_difference (2 * (z + 1) + 1)) rfl rfl (vp_in_nI (by omega) (by decide)) (show A 0 (nI m).toNatClampNeg = A 0 m by rw [nI_clamp (by omega)]) ?_
    iterate 1 (refine zv_step (bX7_difference (2 * (z + 1) + 1)) rfl rfl trivial ?_)
    refine zv_ifb (fun h26 => ?_) (fun h26 => ?_)
    · iterate 5 (refine zv_step (bX7_difference (2 * (z + 1) + 1)) rfl rfl trivial ?_)
      refine zv_ifb (fun h44 => ?_) (fun h44 => ?_)
      · iterate 1 (refine zv_step (bX7_difference (2 * (z + 1) + 1)) rfl rfl trivial ?_)
        exact zv_iret (bX7_difference (2 * (z + 1) + 1)) rfl (Or.inl rfl) (Nat.zero_le _) (Nat.zero_le _) ⟨rfl, _, rfl⟩
      · iterate 2 (refine zv_step (bX7_difference (2 * (z + 1) + 1)) rfl rfl trivial ?_)
        exact zv_iret (bX7_difference (2 * (z + 1) + 1)) rfl (Or.inl rfl) (Nat.zero_le _) (Nat.zero_le _) ⟨rfl, _, rfl⟩
    · iterate 3 (refine zv_step (bX7_difference (2 * (z + 1) + 1)) rfl rfl trivial ?_)
      refine zv_V2 (bX7_difference (2 * (z + 1) + 1)) rfl rfl rfl rfl rfl rfl rfl ⟨rfl, rfl, rfl⟩ ⟨by show 2 * z + 2 + 1 ≤ 2 * (z + 1) + 1; omega, by show 8 + (4 + 11) + 64 * (2 * z + 2) ≤ 64 * (2 * (z + 1) + 1); omega⟩ ⟨Nat.zero_le _, Nat.zero_le _⟩ (mInside f o A J hh hT ih hlo hn hlo2 hm hz (Decidable.not_not.mp h26)) ?_
      rintro _ _ ⟨rfl, v, rfl⟩
      iterate 5 (refine zv_step (bX7_difference (2 * (z + 1) + 1)) rfl rfl trivial ?_)
      refine zv_ifb (fun h44 => ?_) (fun h44 => ?_)
      · iterate 1 (refine zv_step (bX7_difference (2 * (z + 1) + 1)) rfl rfl trivial ?_)
        exact zv_iret (bX7_difference (2 * (z + 1) + 1)) rfl (Or.inl rfl) (Nat.zero_le _) (Nat.zero_le _) ⟨rfl, _, rfl⟩
      · iterate 2 (refine zv_step (bX7_difference (2 * (z + 1) + 1)) rfl rfl trivial ?_)
        exact zv_iret (bX7_difference (2 * (z + 1) + 1)) rfl (Or.inl rfl) (Nat.zero_le _) (Nat.zero_le _) ⟨rfl, _, rfl⟩
set_option maxHeartbeats 1000000 in
set_option maxRecDepth 20000 in
theorem mWholes (f : Nat → zC) (o : Nat → Int32) (A : Nat → Nat → Int32) (J : Nat → Nat → Int64) {lo hi : Nat} (hh : hi ≤ 450) (hT : tbI lo hi A) : ∀ (z n m : Nat), lo ≤ n → n < hi → lo ≤ m → m < hi → szN A n ≤ z → zK (z + 84) zX7_wholes [.ref 76, .int (nI n), .int (nI m)] (wR f o A J) (fun r w' => w' = (wR f o A J) ∧ ∃ v : Int32, r = some (.int v)) := by
  intro z
  induction z with
  | zero =>
    intro n m hlo hn _ _ hz
    have := (rN_sz (hT n hlo hn)).1
    omega
  | succ z ih =>
    intro n m hlo hn hlo2 hm hz
    refine zK_of qX7_wholes (by decide +kernel) rfl ?_
    iterate 3 (refine zv_step (bX7_wholes (z + 1 + 84)) rfl rfl trivial ?_)
    refine zv_iale (bX7_wholes (z + 1 + 84)) rfl rfl (vp_in_nI (by omega) (by decide)) (show A 0 (nI n).toNatClampNeg = A 0 n by rw [nI_clamp (by omega)]) ?_
    iterate 3 (refine zv_step (bX7_wholes (z + 1 + 84)) rfl rfl trivial ?_)
    refine zv_iale (bX7_wholes (z + 1 + 84)) rfl rfl (vp_in_nI (by omega) (by decide)) (show A 0 (nI m).toNatClampNeg = A 0 m by rw [nI_clamp (by omega)]) ?_
    iterate 1 (refine zv_step (bX7_wholes (z + 1 + 84)) rfl rfl trivial ?_)
    refine zv_ifb (fun h12 => ?_) (fun h12 => ?_)
    · iterate 1 (refine zv_step (bX7_wholes (z + 1 + 84)) rfl rfl trivial ?_)
      exact zv_iret (bX7_wholes (z + 1 + 84)) rfl (Or.inl rfl) (Nat.zero_le _) (Nat.zero_le _) ⟨rfl, _, rfl⟩
    · iterate 3 (refine zv_step (bX7_wholes (z + 1 + 84)) rfl rfl trivial ?_)
      refine zv_V2 (bX7_wholes (z + 1 + 84)) rfl rfl rfl rfl rfl rfl rfl ⟨rfl, rfl, rfl⟩ ⟨by show 2 * 40 + 2 + 1 ≤ z + 1 + 84; omega, by show 8 + (4 + 11) + 64 * (2 * 40 + 2) ≤ 64 * (z + 1 + 84); omega⟩ ⟨Nat.zero_le _, Nat.zero_le _⟩ (mInside f o A J hh hT (z := 40) (mDiff f o A J hh hT 40) hlo hn hlo2 hm (by have := (rN_sz (hT n hlo hn)).2.1; omega) (Decidable.not_not.mp h12)) ?_
      rintro _ _ ⟨rfl, v, rfl⟩
      iterate 3 (refine zv_step (bX7_wholes (z + 1 + 84)) rfl rfl trivial ?_)
      refine zv_iale (bX7_wholes (z + 1 + 84)) rfl rfl (vp_in_nI (by omega) (by decide)) (show A 4 (nI n).toNatClampNeg = A 4 n by rw [nI_clamp (by omega)]) ?_
      iterate 3 (refine zv_step (bX7_wholes (z + 1 + 84)) rfl rfl trivial ?_)
      refine zv_iale (bX7_wholes (z + 1 + 84)) rfl rfl (vp_in_nI (by omega) (by decide)) (show A 4 (nI m).toNatClampNeg = A 4 m by rw [nI_clamp (by omega)]) ?_
      iterate 2 (refine zv_step (bX7_wholes (z + 1 + 84)) rfl rfl trivial ?_)
      refine zv_ifb (fun h34 => ?_) (fun h34 => ?_)
      · obtain ⟨s2, s3⟩ := rN_same (hT n hlo hn) (hT m hlo2 hm) (Decidable.not_not.mp h12)
        rcases s2 with ⟨e2, f2⟩ | ⟨a, b, e2, f2, la, ha, lb, hb, hza⟩
        · skip
          iterate 3 (refine zv_step (bX7_wholes (z + 1 + 84)) rfl rfl trivial ?_)
          refine zv_iale (bX7_wholes (z + 1 + 84)) rfl rfl (vp_in_nI (by omega) (by decide)) (show A 2 (nI n).toNatClampNeg = m2 by rw [nI_clamp (by omega)]; exact e2) ?_
          iterate 1 (refine zv_step (bX7_wholes (z + 1 + 84)) rfl rfl trivial ?_)
          refine zv_iff (by decide) ?_
          iterate 2 (refine zv_step (bX7_wholes (z + 1 + 84)) rfl rfl trivial ?_)
          rcases s3 with ⟨e2, f2⟩ | ⟨a, b, e2, f2, la, ha, lb, hb, hza⟩
          · skip
            iterate 3 (refine zv_step (bX7_wholes (z + 1 + 84)) rfl rfl trivial ?_)
            refine zv_iale (bX7_wholes (z + 1 + 84)) rfl rfl (vp_in_nI (by omega) (by decide)) (show A 3 (nI n).toNatClampNeg = m2 by rw [nI_clamp (by omega)]; exact e2) ?_
            iterate 1 (refine zv_step (bX7_wholes (z + 1 + 84)) rfl rfl trivial ?_)
            refine zv_iff (by decide) ?_
            iterate 3 (refine zv_step (bX7_wholes (z + 1 + 84)) rfl rfl trivial ?_)
            exact zv_iret (bX7_wholes (z + 1 + 84)) rfl (Or.inl rfl) (Nat.zero_le _) (Nat.zero_le _) ⟨rfl, _, rfl⟩
          · skip
            iterate 3 (refine zv_step (bX7_wholes (z + 1 + 84)) rfl rfl trivial ?_)
            refine zv_iale (bX7_wholes (z + 1 + 84)) rfl rfl (vp_in_nI (by omega) (by decide)) (show A 3 (nI n).toNatClampNeg = nI a by rw [nI_clamp (by omega)]; exact e2) ?_
            iterate 1 (refine zv_step (bX7_wholes (z + 1 + 84)) rfl rfl trivial ?_)
            refine zv_ift (nI_pos' (by omega)) ?_
            iterate 4 (refine zv_step (bX7_wholes (z + 1 + 84)) rfl rfl trivial ?_)
            refine zv_iale (bX7_wholes (z + 1 + 84)) rfl rfl (vp_in_nI (by omega) (by decide)) (show A 3 (nI n).toNatClampNeg = nI a by rw [nI_clamp (by omega)]; exact e2) ?_
            iterate 3 (refine zv_step (bX7_wholes (z + 1 + 84)) rfl rfl trivial ?_)
            refine zv_iale (bX7_wholes (z + 1 + 84)) rfl rfl (vp_in_nI (by omega) (by decide)) (show A 3 (nI m).toNatClampNeg = nI b by rw [nI_clamp (by omega)]; exact f2) ?_
            refine zv_V2 (bX7_wholes (z + 1 + 84)) rfl rfl rfl rfl rfl rfl rfl ⟨rfl, rfl, rfl⟩ ⟨by show z + 84 + 1 ≤ z + 1 + 84; omega, by show 8 + (3 + 11) + 64 * (z + 84) ≤ 64 * (z + 1 + 84); omega⟩ ⟨Nat.zero_le _, Nat.zero_le _⟩ (ih a b (by omega) (by omega) (by omega) (by omega) (by omega)) ?_
            rintro _ _ ⟨rfl, v94, rfl⟩
            iterate 1 (refine zv_step (bX7_wholes (z + 1 + 84)) rfl rfl trivial ?_)
            exact zv_iret (bX7_wholes (z + 1 + 84)) rfl (Or.inl rfl) (Nat.zero_le _) (Nat.zero_le _) ⟨rfl, _, rfl⟩
        · skip
          iterate 3 (refine zv_step (bX7_wholes (z + 1 + 84)) rfl rfl trivial ?_)
          refine zv_iale (bX7_wholes (z + 1 + 84)) rfl rfl (vp_in_nI (by omega) (by decide)) (show A 2 (nI n).toNatClampNeg = nI a by rw [nI_clamp (by omega)]; exact e2) ?_
          iterate 1 (refine zv_step (bX7_wholes (z + 1 + 84)) rfl rfl trivial ?_)
          refine zv_ift (nI_pos' (by omega)) ?_
          iterate 4 (refine zv_step (bX7_wholes (z + 1 + 84)) rfl rfl trivial ?_)
          refine zv_iale (bX7_wholes (z + 1 + 84)) rfl rfl (vp_in_nI (by omega) (by decide)) (show A 2 (nI n).toNatClampNeg = nI a by rw [nI_clamp (by omega)]; exact e2) ?_
          iterate 3 (refine zv_step (bX7_wholes (z + 1 + 84)) rfl rfl trivial ?_)
          refine zv_iale (bX7_wholes (z + 1 + 84)) rfl rfl (vp_in_nI (by omega) (by decide)) (show A 2 (nI m).toNatClampNeg = nI b by rw [nI_clamp (by omega)]; exact f2) ?_
          refine zv_V2 (bX7_wholes (z + 1 + 84)) rfl rfl rfl rfl rfl rfl rfl ⟨rfl, rfl, rfl⟩ ⟨by show z + 84 + 1 ≤ z + 1 + 84; omega, by show 8 + (3 + 11) + 64 * (z + 84) ≤ 64 * (z + 1 + 84); omega⟩ ⟨Nat.zero_le _, Nat.zero_le _⟩ (ih a b (by omega) (by omega) (by omega) (by omega) (by omega)) ?_
          rintro _ _ ⟨rfl, v65, rfl⟩
          rcases s3 with ⟨e2, f2⟩ | ⟨a, b, e2, f2, la, ha, lb, hb, hza⟩
          · skip
            iterate 3 (refine zv_step (bX7_wholes (z + 1 + 84)) rfl rfl trivial ?_)
            refine zv_iale (bX7_wholes (z + 1 + 84)) rfl rfl (vp_in_nI (by omega) (by decide)) (show A 3 (nI n).toNatClampNeg = m2 by rw [nI_clamp (by omega)]; exact e2) ?_
            iterate 1 (refine zv_step (bX7_wholes (z + 1 + 84)) rfl rfl trivial ?_)
            refine zv_iff (by decide) ?_
            iterate 3 (refine zv_step (bX7_wholes (z + 1 + 84)) rfl rfl trivial ?_)
            exact zv_iret (bX7_wholes (z + 1 + 84)) rfl (Or.inl rfl) (Nat.zero_le _) (Nat.zero_le _) ⟨rfl, _, rfl⟩
          · skip
            iterate 3 (refine zv_step (bX7_wholes (z + 1 + 84)) rfl rfl trivial ?_)
            refine zv_iale (bX7_wholes (z + 1 + 84)) rfl rfl (vp_in_nI (by omega) (by decide)) (show A 3 (nI n).toNatClampNeg = nI a by rw [nI_clamp (by omega)]; exact e2) ?_
            iterate 1 (refine zv_step (bX7_wholes (z + 1 + 84)) rfl rfl trivial ?_)
            refine zv_ift (nI_pos' (by omega)) ?_
            iterate 4 (refine zv_step (bX7_wholes (z + 1 + 84)) rfl rfl trivial ?_)
            refine zv_iale (bX7_wholes (z + 1 + 84)) rfl rfl (vp_in_nI (by omega) (by decide)) (show A 3 (nI n).toNatClampNeg = nI a by rw [nI_clamp (by omega)]; exact e2) ?_
            iterate 3 (refine zv_step (bX7_wholes (z + 1 + 84)) rfl rfl trivial ?_)
            refine zv_iale (bX7_wholes (z + 1 + 84)) rfl rfl (vp_in_nI (by omega) (by decide)) (show A 3 (nI m).toNatClampNeg = nI b by rw [nI_clamp (by omega)]; exact f2) ?_
            refine zv_V2 (bX7_wholes (z + 1 + 84)) rfl rfl rfl rfl rfl rfl rfl ⟨rfl, rfl, rfl⟩ ⟨by show z + 84 + 1 ≤ z + 1 + 84; omega, by show 8 + (3 + 11) + 64 * (z + 84) ≤ 64 * (z + 1 + 84); omega⟩ ⟨Nat.zero_le _, Nat.zero_le _⟩ (ih a b (by omega) (by omega) (by omega) (by omega) (by omega)) ?_
            rintro _ _ ⟨rfl, v94, rfl⟩
            iterate 1 (refine zv_step (bX7_wholes (z + 1 + 84)) rfl rfl trivial ?_)
            exact zv_iret (bX7_wholes (z + 1 + 84)) rfl (Or.inl rfl) (Nat.zero_le _) (Nat.zero_le _) ⟨rfl, _, rfl⟩
      · iterate 1 (refine zv_step (bX7_wholes (z + 1 + 84)) rfl rfl trivial ?_)
        exact zv_iret (bX7_wholes (z + 1 + 84)) rfl (Or.inl rfl) (Nat.zero_le _) (Nat.zero_le _) ⟨rfl, _, rfl⟩
set_option maxHeartbeats 1000000 in
set_option maxRecDepth 20000 in
theorem mChanged (f : Nat → zC) (o : Nat → Int32) (A : Nat → Nat → Int32) (J : Nat → Nat → Int64) {u : Nat} (hu : u ≤ 120) (ho : o 0 = nI u) (hT : tbI 0 u A) (x y : Int32) : zK 82 zX7_changed [.ref 76, .int x, .int y] (wR f o A J) (fun r w' => w' = (wR f o A J) ∧ ∃ v : Int32, r = some (.int v)) := by
  refine zK_of qX7_changed (by decide +kernel) rfl ?_
  iterate 2 (refine zv_step (bX7_changed 82) rfl rfl trivial ?_)
  refine zv_V1 (bX7_changed 82) rfl rfl rfl rfl rfl rfl rfl ⟨rfl, rfl, rfl⟩ ⟨by decide, by decide⟩ ⟨Nat.zero_le _, Nat.zero_le _⟩ (mIsNode f o A J hu ho _) ?_
  rintro _ _ ⟨rfl, ⟨g1, rfl⟩ | ⟨g1, rfl⟩⟩
  · obtain ⟨n, hn, rfl⟩ := nd_of (by omega) g1
    iterate 1 (refine zv_step (bX7_changed 82) rfl rfl trivial ?_)
    refine zv_iff (by decide) ?_
    iterate 2 (refine zv_step (bX7_changed 82) rfl rfl trivial ?_)
    refine zv_V1 (bX7_changed 82) rfl rfl rfl rfl rfl rfl rfl ⟨rfl, rfl, rfl⟩ ⟨by decide, by decide⟩ ⟨Nat.zero_le _, Nat.zero_le _⟩ (mIsNode f o A J hu ho _) ?_
    rintro _ _ ⟨rfl, ⟨g2, rfl⟩ | ⟨g2, rfl⟩⟩
    · obtain ⟨m, hm, rfl⟩ := nd_of (by omega) g2
      iterate 1 (refine zv_step (bX7_changed 82) rfl rfl trivial ?_)
      refine zv_iff (by decide) ?_
      iterate 3 (refine zv_step (bX7_changed 82) rfl rfl trivial ?_)
      refine zv_V2 (bX7_changed 82) rfl rfl rfl rfl rfl rfl rfl ⟨rfl, rfl, rfl⟩ ⟨by decide, by decide⟩ ⟨Nat.zero_le _, Nat.zero_le _⟩ (mDiff f o A J (by omega) hT 40 n m (Nat.zero_le _) hn (Nat.zero_le _) hm (rN_sz (hT n (Nat.zero_le _) hn)).2.1) ?_
      rintro _ _ ⟨rfl, v, rfl⟩
      iterate 1 (refine zv_step (bX7_changed 82) rfl rfl trivial ?_)
      exact zv_iret (bX7_changed 82) rfl (Or.inl rfl) (Nat.zero_le _) (Nat.zero_le _) ⟨rfl, _, rfl⟩
    · skip
      iterate 1 (refine zv_step (bX7_changed 82) rfl rfl trivial ?_)
      refine zv_ift (by decide) ?_
      iterate 1 (refine zv_step (bX7_changed 82) rfl rfl trivial ?_)
      exact zv_iret (bX7_changed 82) rfl (Or.inl rfl) (Nat.zero_le _) (Nat.zero_le _) ⟨rfl, _, rfl⟩
  · skip
    iterate 1 (refine zv_step (bX7_changed 82) rfl rfl trivial ?_)
    refine zv_ift (by decide) ?_
    iterate 1 (refine zv_step (bX7_changed 82) rfl rfl trivial ?_)
    exact zv_iret (bX7_changed 82) rfl (Or.inl rfl) (Nat.zero_le _) (Nat.zero_le _) ⟨rfl, _, rfl⟩
set_option maxHeartbeats 1000000 in
set_option maxRecDepth 20000 in
theorem mExchanged (f : Nat → zC) (o : Nat → Int32) (A : Nat → Nat → Int32) (J : Nat → Nat → Int64) {u : Nat} (hu : u ≤ 120) (ho : o 0 = nI u) (hT : tbI 0 u A) (x y : Int32) : zK 125 zX7_exchanged [.ref 76, .int x, .int y] (wR f o A J) (fun r w' => w' = (wR f o A J) ∧ ∃ v : Int32, r = some (.int v)) := by
  refine zK_of qX7_exchanged (by decide +kernel) rfl ?_
  iterate 2 (refine zv_step (bX7_exchanged 125) rfl rfl trivial ?_)
  refine zv_V1 (bX7_exchanged 125) rfl rfl rfl rfl rfl rfl rfl ⟨rfl, rfl, rfl⟩ ⟨by decide, by decide⟩ ⟨Nat.zero_le _, Nat.zero_le _⟩ (mIsNode f o A J hu ho _) ?_
  rintro _ _ ⟨rfl, ⟨g1, rfl⟩ | ⟨g1, rfl⟩⟩
  · obtain ⟨n, hn, rfl⟩ := nd_of (by omega) g1
    iterate 1 (refine zv_step (bX7_exchanged 125) rfl rfl trivial ?_)
    refine zv_iff (by decide) ?_
    iterate 2 (refine zv_step (bX7_exchanged 125) rfl rfl trivial ?_)
    refine zv_V1 (bX7_exchanged 125) rfl rfl rfl rfl rfl rfl rfl ⟨rfl, rfl, rfl⟩ ⟨by decide, by decide⟩ ⟨Nat.zero_le _, Nat.zero_le _⟩ (mIsNode f o A J hu ho _) ?_
    rintro _ _ ⟨rfl, ⟨g2, rfl⟩ | ⟨g2, rfl⟩⟩
    · obtain ⟨m, hm, rfl⟩ := nd_of (by omega) g2
      iterate 1 (refine zv_step (bX7_exchanged 125) rfl rfl trivial ?_)
      refine zv_iff (by decide) ?_
      iterate 3 (refine zv_step (bX7_exchanged 125) rfl rfl trivial ?_)
      refine zv_V2 (bX7_exchanged 125) rfl rfl rfl rfl rfl rfl rfl ⟨rfl, rfl, rfl⟩ ⟨by decide, by decide⟩ ⟨Nat.zero_le _, Nat.zero_le _⟩ (mWholes f o A J (by omega) hT 40 n m (Nat.zero_le _) hn (Nat.zero_le _) hm (rN_sz (hT n (Nat.zero_le _) hn)).2.1) ?_
      rintro _ _ ⟨rfl, v, rfl⟩
      iterate 1 (refine zv_step (bX7_exchanged 125) rfl rfl trivial ?_)
      exact zv_iret (bX7_exchanged 125) rfl (Or.inl rfl) (Nat.zero_le _) (Nat.zero_le _) ⟨rfl, _, rfl⟩
    · skip
      iterate 1 (refine zv_step (bX7_exchanged 125) rfl rfl trivial ?_)
      refine zv_ift (by decide) ?_
      iterate 1 (refine zv_step (bX7_exchanged 125) rfl rfl trivial ?_)
      exact zv_iret (bX7_exchanged 125) rfl (Or.inl rfl) (Nat.zero_le _) (Nat.zero_le _) ⟨rfl, _, rfl⟩
  · skip
    iterate 1 (refine zv_step (bX7_exchanged 125) rfl rfl trivial ?_)
    refine zv_ift (by decide) ?_
    iterate 1 (refine zv_step (bX7_exchanged 125) rfl rfl trivial ?_)
    exact zv_iret (bX7_exchanged 125) rfl (Or.inl rfl) (Nat.zero_le _) (Nat.zero_le _) ⟨rfl, _, rfl⟩
set_option maxHeartbeats 1000000 in
set_option maxRecDepth 20000 in
theorem funL (f : Nat → zC) (o : Nat → Int32) (A : Nat → Nat → Int32) (J : Nat → Nat → Int64) {n0 : Nat} : ∀ (c k : Nat), k + c = 10 → ∀ {x2 v : Int32}, x2 = nI k → zV (zMo 0 zX7_functions) false n0 0 0 4 [(2, .int x2), (1, .int v), (0, .ref 76)] [] (wR f o A J) (fun r w' => w' = (wR f o A J) ∧ ∃ v : Int32, r = some (.int v)) := by
  intro c
  induction c with
  | zero =>
    intro k hc x2 v e2
    subst e2
    iterate 3 (refine zv_step (bX7_functions 0) rfl rfl trivial ?_)
    refine zv_ift (show nI 10 ≤ nI k from nI_le (by omega) (by omega)) ?_
    iterate 1 (refine zv_step (bX7_functions 0) rfl rfl trivial ?_)
    exact zv_iret (bX7_functions 0) rfl (Or.inl rfl) (Nat.zero_le _) (Nat.zero_le _) ⟨rfl, _, rfl⟩
  | succ c ih =>
    intro k hc x2 v e2
    subst e2
    iterate 3 (refine zv_step (bX7_functions 0) rfl rfl trivial ?_)
    refine zv_iff (show ¬ nI 10 ≤ nI k from fun h => absurd ((nI_leI (by omega) (by omega)).mp h) (by omega)) ?_
    iterate 4 (refine zv_step (bX7_functions 0) rfl rfl trivial ?_)
    refine zv_step (bX7_functions 0) rfl rfl (vp_in_nI (by omega) (by decide)) ?_
    iterate 1 (refine zv_step (bX7_functions 0) rfl rfl trivial ?_)
    refine zv_ifb (fun h17 => ?_) (fun h17 => ?_)
    · iterate 5 (refine zv_step (bX7_functions 0) rfl rfl trivial ?_)
      refine zv_locals (l := [(2, .int (nI k + Int32.ofInt 1)), (1, .int (v + Int32.ofInt 0)), (0, .ref 76)]) (l' := [(2, .int (nI k + Int32.ofInt 1)), (1, .int (v + Int32.ofInt 0)), (0, .ref 76)]) (fun q h => h) (ih (k + 1) (by omega) (nI_1 k))
    · iterate 6 (refine zv_step (bX7_functions 0) rfl rfl trivial ?_)
      refine zv_locals (l := [(2, .int (nI k + Int32.ofInt 1)), (1, .int (v + Int32.ofInt 1)), (0, .ref 76)]) (l' := [(2, .int (nI k + Int32.ofInt 1)), (1, .int (v + Int32.ofInt 1)), (0, .ref 76)]) (fun q h => h) (ih (k + 1) (by omega) (nI_1 k))
set_option maxHeartbeats 1000000 in
set_option maxRecDepth 20000 in
theorem mFunctions (f : Nat → zC) (o : Nat → Int32) (A : Nat → Nat → Int32) (J : Nat → Nat → Int64) : zK 0 zX7_functions [.ref 76] (wR f o A J) (fun r w' => w' = (wR f o A J) ∧ ∃ v : Int32, r = some (.int v)) := by
  refine zK_of qX7_functions (by decide +kernel) rfl ?_
  iterate 4 (refine zv_step (bX7_functions 0) rfl rfl trivial ?_)
  refine zv_locals (l := [(2, .int (Int32.ofInt 0)), (1, .int (Int32.ofInt 0)), (0, .ref 76)]) (l' := [(2, .int (Int32.ofInt 0)), (1, .int (Int32.ofInt 0)), (0, .ref 76)]) (fun q h => h) (funL f o A J 10 0 rfl rfl)
set_option maxHeartbeats 1000000 in
set_option maxRecDepth 20000 in
theorem mCount (f : Nat → zC) (o : Nat → Int32) (A : Nat → Nat → Int32) (J : Nat → Nat → Int64) (x : Int32) : zK 1 zX7_count [.ref 76, .int x] (wR f o A J) (fun r w' => w' = (wR f o A J) ∧ ∃ v : Int32, r = some (.int v)) := by
  refine zK_of qX7_count (by decide +kernel) rfl ?_
  iterate 2 (refine zv_step (bX7_count 1) rfl rfl trivial ?_)
  refine zv_ifb (fun h1 => ?_) (fun h1 => ?_)
  · iterate 3 (refine zv_step (bX7_count 1) rfl rfl trivial ?_)
    refine zv_ifb (fun h13 => ?_) (fun h13 => ?_)
    · iterate 3 (refine zv_step (bX7_count 1) rfl rfl trivial ?_)
      refine zv_ifb (fun h25 => ?_) (fun h25 => ?_)
      · iterate 1 (refine zv_step (bX7_count 1) rfl rfl trivial ?_)
        exact zv_iret (bX7_count 1) rfl (Or.inl rfl) (Nat.zero_le _) (Nat.zero_le _) ⟨rfl, _, rfl⟩
      · iterate 1 (refine zv_step (bX7_count 1) rfl rfl trivial ?_)
        refine zv_V0 (bX7_count 1) rfl rfl rfl rfl rfl rfl rfl ⟨rfl, rfl, rfl⟩ ⟨by decide, by decide⟩ ⟨Nat.zero_le _, Nat.zero_le _⟩ (mFunctions f o A J) ?_
        rintro _ _ ⟨rfl, v, rfl⟩
        iterate 1 (refine zv_step (bX7_count 1) rfl rfl trivial ?_)
        exact zv_iret (bX7_count 1) rfl (Or.inl rfl) (Nat.zero_le _) (Nat.zero_le _) ⟨rfl, _, rfl⟩
    · iterate 3 (refine zv_step (bX7_count 1) rfl rfl trivial ?_)
      exact zv_iret (bX7_count 1) rfl (Or.inl rfl) (Nat.zero_le _) (Nat.zero_le _) ⟨rfl, _, rfl⟩
  · iterate 3 (refine zv_step (bX7_count 1) rfl rfl trivial ?_)
    exact zv_iret (bX7_count 1) rfl (Or.inl rfl) (Nat.zero_le _) (Nat.zero_le _) ⟨rfl, _, rfl⟩
end
section
def szS (A : Nat → Nat → Int32) : Prop := ∀ d, d < 8 → ∃ m : Nat, m ≤ 60 ∧ A 12 d = nI m
/-- only shelves have changed -/
def shM (o : Nat → Int32) (A : Nat → Nat → Int32) (o' : Nat → Int32) (A' : Nat → Nat → Int32) : Prop := (∀ j, j ≠ 34 → o' j = o j) ∧ (∀ r, ¬ (9 ≤ r ∧ r ≤ 13) → r ≠ 15 → A' r = A r) ∧ szS A'
theorem shM_refl {o : Nat → Int32} {A : Nat → Nat → Int32} (h : szS A) : shM o A o A := ⟨fun _ _ => rfl, fun _ _ _ => rfl, h⟩
theorem up12 {A : Nat → Nat → Int32} (h : szS A) {i : Nat} {v : Int32} (hv : ∃ m : Nat, m ≤ 60 ∧ v = nI m) : ∀ d, d < 8 → ∃ m : Nat, m ≤ 60 ∧ upd (A 12) i v d = nI m := by
  intro d hd
  by_cases e : d = i
  · subst e
    rw [upd_self]
    exact hv
  · rw [upd_ne _ _ e]
    exact h d hd
theorem ix60 {s k : Nat} : c8 60 * nI s + nI k = nI (60 * s + k) := by
  show Int32.ofNat 60 * Int32.ofNat s + Int32.ofNat k = _
  rw [← Int32.ofNat_mul, ← Int32.ofNat_add]
  rfl
theorem rN_sum {lo n : Nat} {A : Nat → Nat → Int32} (h : rN lo A n) : (A 2 n = m2 ∧ A 3 n = m2 ∧ szN A n = 1) ∨ (∃ a : Nat, A 2 n = nI a ∧ A 3 n = m2 ∧ lo ≤ a ∧ a < n ∧ szN A n = 1 + szN A a) ∨ (∃ a b : Nat, A 2 n = nI a ∧ A 3 n = nI b ∧ lo ≤ a ∧ a < n ∧ lo ≤ b ∧ b < n ∧ szN A n = 1 + szN A a + szN A b) := by
  obtain ⟨k1, y1, f0, l1, h4, hy, hs, _⟩ := h
  rw [szN_of h4 hy]
  rcases hs with ⟨c1, h2, h3, e1⟩ | ⟨c1, c2, a, b, h2, la, ha, h3, lb, hb, e1⟩ | ⟨c1, a, h2, la, ha, h3, e1⟩
  · exact Or.inl ⟨h2, h3, e1⟩
  · exact Or.inr (Or.inr ⟨a, b, h2, h3, la, ha, lb, hb, e1⟩)
  · exact Or.inr (Or.inl ⟨a, h2, h3, la, ha, e1⟩)
set_option maxHeartbeats 1000000 in
set_option maxRecDepth 20000 in
theorem mKinds (f : Nat → zC) (o : Nat → Int32) (A : Nat → Nat → Int32) (J : Nat → Nat → Int64) {lo hi : Nat} (hh : hi ≤ 450) (hT : tbI lo hi A) {s : Nat} (hs : s < 8) : ∀ (z n : Nat), lo ≤ n → n < hi → szN A n ≤ z → ∀ (q : Nat) (g : Nat → Int32), q + szN A n ≤ 60 → zK (z + 1) zX7_kinds [.ref 76, .int (nI s), .int (nI n)] (wR f (upd o 34 (nI q)) (updA A 13 g) J) (fun r w' => r = none ∧ ∃ g' : Nat → Int32, w' = (wR f (upd o 34 (nI (q + szN A n))) (updA A 13 g') J)) := by
  intro z
  induction z with
  | zero =>
    intro n hlo hn hz
    have := (rN_sz (hT n hlo hn)).1
    omega
  | succ z ih =>
    intro n hlo hn hz q g hq
    refine zK_of qX7_kinds (by decide +kernel) rfl ?_
    rcases rN_sum (hT n hlo hn) with ⟨h2, h3, es⟩ | ⟨a, h2, h3, la, ha, es⟩ | ⟨a, b, h2, h3, la, ha, lb, hb, es⟩
    · iterate 11 (refine zv_step (bX7_kinds (z + 1 + 1)) rfl rfl trivial ?_)
      refine zv_iale (bX7_kinds (z + 1 + 1)) rfl rfl (vp_in_nI (by omega) (by decide)) (show A 0 (nI n).toNatClampNeg = A 0 n by rw [nI_clamp (by omega)]) ?_
      refine zv_step (bX7_kinds (z + 1 + 1)) rfl rfl (show vp_in (c8 60 * nI s + nI q) 480 by rw [ix60]; exact vp_in_nI (by omega) (by decide)) ?_
      iterate 6 (refine zv_step (bX7_kinds (z + 1 + 1)) rfl rfl trivial ?_)
      refine zv_world (show _ = (wR f (upd o 34 (nI (q + 1))) (updA A 13 (upd g (c8 60 * nI s + nI q).toNatClampNeg (A 0 n))) J) from by rw [show nI (q + 1) = nI q + Int32.ofInt 1 from (nI_1 q).symm]; rfl) ?_
      iterate 3 (refine zv_step (bX7_kinds (z + 1 + 1)) rfl rfl trivial ?_)
      refine zv_iale (bX7_kinds (z + 1 + 1)) rfl rfl (vp_in_nI (by omega) (by decide)) (show A 2 (nI n).toNatClampNeg = m2 by rw [nI_clamp (by omega)]; exact h2) ?_
      iterate 1 (refine zv_step (bX7_kinds (z + 1 + 1)) rfl rfl trivial ?_)
      refine zv_ift (by decide) ?_
      iterate 3 (refine zv_step (bX7_kinds (z + 1 + 1)) rfl rfl trivial ?_)
      refine zv_iale (bX7_kinds (z + 1 + 1)) rfl rfl (vp_in_nI (by omega) (by decide)) (show A 3 (nI n).toNatClampNeg = m2 by rw [nI_clamp (by omega)]; exact h3) ?_
      iterate 1 (refine zv_step (bX7_kinds (z + 1 + 1)) rfl rfl trivial ?_)
      refine zv_ift (by decide) ?_
      exact zv_ret (bX7_kinds (z + 1 + 1)) rfl rfl (Nat.zero_le _) (Nat.zero_le _) ⟨rfl, _, by rw [es, show q + 1 = q + 1 by omega]⟩
    · iterate 11 (refine zv_step (bX7_kinds (z + 1 + 1)) rfl rfl trivial ?_)
      refine zv_iale (bX7_kinds (z + 1 + 1)) rfl rfl (vp_in_nI (by omega) (by decide)) (show A 0 (nI n).toNatClampNeg = A 0 n by rw [nI_clamp (by omega)]) ?_
      refine zv_step (bX7_kinds (z + 1 + 1)) rfl rfl (show vp_in (c8 60 * nI s + nI q) 480 by rw [ix60]; exact vp_in_nI (by omega) (by decide)) ?_
      iterate 6 (refine zv_step (bX7_kinds (z + 1 + 1)) rfl rfl trivial ?_)
      refine zv_world (show _ = (wR f (upd o 34 (nI (q + 1))) (updA A 13 (upd g (c8 60 * nI s + nI q).toNatClampNeg (A 0 n))) J) from by rw [show nI (q + 1) = nI q + Int32.ofInt 1 from (nI_1 q).symm]; rfl) ?_
      iterate 3 (refine zv_step (bX7_kinds (z + 1 + 1)) rfl rfl trivial ?_)
      refine zv_iale (bX7_kinds (z + 1 + 1)) rfl rfl (vp_in_nI (by omega) (by decide)) (show A 2 (nI n).toNatClampNeg = nI a by rw [nI_clamp (by omega)]; exact h2) ?_
      iterate 1 (refine zv_step (bX7_kinds (z + 1 + 1)) rfl rfl trivial ?_)
      refine zv_iff (nI_pos (by omega)) ?_
      iterate 5 (refine zv_step (bX7_kinds (z + 1 + 1)) rfl rfl trivial ?_)
      refine zv_iale (bX7_kinds (z + 1 + 1)) rfl rfl (vp_in_nI (by omega) (by decide)) (show A 2 (nI n).toNatClampNeg = nI a by rw [nI_clamp (by omega)]; exact h2) ?_
      refine zv_V2 (bX7_kinds (z + 1 + 1)) rfl rfl rfl rfl rfl rfl rfl ⟨rfl, rfl, rfl⟩ ⟨by show z + 1 + 1 ≤ z + 1 + 1; omega, by show 8 + (3 + 11) + 64 * (z + 1) ≤ 64 * (z + 1 + 1); omega⟩ ⟨Nat.zero_le _, Nat.zero_le _⟩ (ih a (by omega) (by omega) (by omega) _ _ (by omega)) ?_
      rintro _ _ ⟨rfl, ga, rfl⟩
      iterate 3 (refine zv_step (bX7_kinds (z + 1 + 1)) rfl rfl trivial ?_)
      refine zv_iale (bX7_kinds (z + 1 + 1)) rfl rfl (vp_in_nI (by omega) (by decide)) (show A 3 (nI n).toNatClampNeg = m2 by rw [nI_clamp (by omega)]; exact h3) ?_
      iterate 1 (refine zv_step (bX7_kinds (z + 1 + 1)) rfl rfl trivial ?_)
      refine zv_ift (by decide) ?_
      exact zv_ret (bX7_kinds (z + 1 + 1)) rfl rfl (Nat.zero_le _) (Nat.zero_le _) ⟨rfl, _, by rw [es, show q + (1 + szN A a) = q + 1 + szN A a by omega]⟩
    · iterate 11 (refine zv_step (bX7_kinds (z + 1 + 1)) rfl rfl trivial ?_)
      refine zv_iale (bX7_kinds (z + 1 + 1)) rfl rfl (vp_in_nI (by omega) (by decide)) (show A 0 (nI n).toNatClampNeg = A 0 n by rw [nI_clamp (by omega)]) ?_
      refine zv_step (bX7_kinds (z + 1 + 1)) rfl rfl (show vp_in (c8 60 * nI s + nI q) 480 by rw [ix60]; exact vp_in_nI (by omega) (by decide)) ?_
      iterate 6 (refine zv_step (bX7_kinds (z + 1 + 1)) rfl rfl trivial ?_)
      refine zv_world (show _ = (wR f (upd o 34 (nI (q + 1))) (updA A 13 (upd g (c8 60 * nI s + nI q).toNatClampNeg (A 0 n))) J) from by rw [show nI (q + 1) = nI q + Int32.ofInt 1 from (nI_1 q).symm]; rfl) ?_
      iterate 3 (refine zv_step (bX7_kinds (z + 1 + 1)) rfl rfl trivial ?_)
      refine zv_iale (bX7_kinds (z + 1 + 1)) rfl rfl (vp_in_nI (by omega) (by decide)) (show A 2 (nI n).toNatClampNeg = nI a by rw [nI_clamp (by omega)]; exact h2) ?_
      iterate 1 (refine zv_step (bX7_kinds (z + 1 + 1)) rfl rfl trivial ?_)
      refine zv_iff (nI_pos (by omega)) ?_
      iterate 5 (refine zv_step (bX7_kinds (z + 1 + 1)) rfl rfl trivial ?_)
      refine zv_iale (bX7_kinds (z + 1 + 1)) rfl rfl (vp_in_nI (by omega) (by decide)) (show A 2 (nI n).toNatClampNeg = nI a by rw [nI_clamp (by omega)]; exact h2) ?_
      refine zv_V2 (bX7_kinds (z + 1 + 1)) rfl rfl rfl rfl rfl rfl rfl ⟨rfl, rfl, rfl⟩ ⟨by show z + 1 + 1 ≤ z + 1 + 1; omega, by show 8 + (3 + 11) + 64 * (z + 1) ≤ 64 * (z + 1 + 1); omega⟩ ⟨Nat.zero_le _, Nat.zero_le _⟩ (ih a (by omega) (by omega) (by omega) _ _ (by omega)) ?_
      rintro _ _ ⟨rfl, ga, rfl⟩
      iterate 3 (refine zv_step (bX7_kinds (z + 1 + 1)) rfl rfl trivial ?_)
      refine zv_iale (bX7_kinds (z + 1 + 1)) rfl rfl (vp_in_nI (by omega) (by decide)) (show A 3 (nI n).toNatClampNeg = nI b by rw [nI_clamp (by omega)]; exact h3) ?_
      iterate 1 (refine zv_step (bX7_kinds (z + 1 + 1)) rfl rfl trivial ?_)
      refine zv_iff (nI_pos (by omega)) ?_
      iterate 5 (refine zv_step (bX7_kinds (z + 1 + 1)) rfl rfl trivial ?_)
      refine zv_iale (bX7_kinds (z + 1 + 1)) rfl rfl (vp_in_nI (by omega) (by decide)) (show A 3 (nI n).toNatClampNeg = nI b by rw [nI_clamp (by omega)]; exact h3) ?_
      refine zv_V2 (bX7_kinds (z + 1 + 1)) rfl rfl rfl rfl rfl rfl rfl ⟨rfl, rfl, rfl⟩ ⟨by show z + 1 + 1 ≤ z + 1 + 1; omega, by show 8 + (3 + 11) + 64 * (z + 1) ≤ 64 * (z + 1 + 1); omega⟩ ⟨Nat.zero_le _, Nat.zero_le _⟩ (ih b (by omega) (by omega) (by omega) _ _ (by omega)) ?_
      rintro _ _ ⟨rfl, gb, rfl⟩
      exact zv_ret (bX7_kinds (z + 1 + 1)) rfl rfl (Nat.zero_le _) (Nat.zero_le _) ⟨rfl, _, by rw [es, show q + (1 + szN A a + szN A b) = q + 1 + szN A a + szN A b by omega]⟩
set_option maxHeartbeats 1000000 in
set_option maxRecDepth 20000 in
theorem keepL (f : Nat → zC) (o : Nat → Int32) (A : Nat → Nat → Int32) (J : Nat → Nat → Int64) {h s : Nat} (hh : h ≤ 20) (ho10 : o 10 = nI h) (hs : s < 8) {x y : Int32} {n0 : Nat} {Q : Option Value → zW → Prop} (hQ : ∀ g, Q (some (.int (Int32.ofInt 0))) (wR f o (updA A 13 g) J)) : ∀ (c i : Nat) (g : Nat → Int32), i + c = h → ∀ {x5 : Int32}, x5 = nI i → zV (zMo 42 zX7_keep) false n0 0 0 117 [(5, .int x5), (4, .int (Int32.ofInt 1)), (0, .ref 76), (1, .int (nI s)), (2, .int y), (3, .int x)] [] (wR f o (updA A 13 g) J) Q := by
  intro c
  induction c with
  | zero =>
    intro i g hc x5 e5
    subst e5
    iterate 4 (refine zv_step (bX7_keep 42) rfl rfl trivial ?_)
    refine zv_ift (show o 10 ≤ nI i by rw [ho10]; exact nI_le (by omega) (by omega)) ?_
    iterate 2 (refine zv_step (bX7_keep 42) rfl rfl trivial ?_)
    exact zv_iret (bX7_keep 42) rfl (Or.inl rfl) (Nat.zero_le _) (Nat.zero_le _) (hQ g)
  | succ c ih =>
    intro i g hc x5 e5
    subst e5
    iterate 4 (refine zv_step (bX7_keep 42) rfl rfl trivial ?_)
    refine zv_iff (show ¬ o 10 ≤ nI i by rw [ho10]; exact fun h => absurd ((nI_leI (by omega) (by omega)).mp h) (by omega)) ?_
    iterate 10 (refine zv_step (bX7_keep 42) rfl rfl trivial ?_)
    refine zv_step (bX7_keep 42) rfl rfl (vp_in_nI (by omega) (by decide)) ?_
    refine zv_step (bX7_keep 42) rfl rfl (show vp_in (c8 60 * nI s + nI i) 480 by rw [ix60]; exact vp_in_nI (by omega) (by decide)) ?_
    iterate 2 (refine zv_step (bX7_keep 42) rfl rfl trivial ?_)
    refine zv_world (show _ = wR f o (updA A 13 (upd g (c8 60 * nI s + nI i).toNatClampNeg (A 8 (nI i).toNatClampNeg))) J from rfl) ?_
    exact ih (i + 1) _ (by omega) (nI_1 i)
set_option maxHeartbeats 1000000 in
set_option maxRecDepth 20000 in
theorem mKeep (f : Nat → zC) (o : Nat → Int32) (A : Nat → Nat → Int32) (J : Nat → Nat → Int64) {u : Nat} (hu : u ≤ 120) (ho : o 0 = nI u) (hT : tbI 0 u A) {h : Nat} (hh : h ≤ 20) (ho10 : o 10 = nI h) (hS : szS A) (d y x : Int32) : zK 42 zX7_keep [.ref 76, .int d, .int y, .int x] (wR f o A J) (fun r w' => ∃ (o' : Nat → Int32) (A' : Nat → Nat → Int32) (R : Int32), r = some (.int R) ∧ w' = wR f o' A' J ∧ shM o A o' A') := by
  refine zK_of qX7_keep (by decide +kernel) rfl ?_
  iterate 2 (refine zv_step (bX7_keep 42) rfl rfl trivial ?_)
  refine zv_ifb (fun h1 => ?_) (fun h1 => ?_)
  · iterate 4 (refine zv_step (bX7_keep 42) rfl rfl trivial ?_)
    refine zv_S1 (bX7_keep 42) rfl rfl rfl rfl ⟨rfl, rfl, rfl⟩ ⟨by decide, by decide⟩ ⟨Nat.zero_le _, Nat.zero_le _⟩ (hX7_isShelf _ _) ?_
    rintro _ _ ⟨rfl, ⟨g2, rfl⟩ | ⟨g2, rfl⟩⟩
    · obtain ⟨s, hs, rfl⟩ := in_nat (b := 7) (by decide) g2
      iterate 1 (refine zv_step (bX7_keep 42) rfl rfl trivial ?_)
      refine zv_iff (by decide) ?_
      iterate 2 (refine zv_step (bX7_keep 42) rfl rfl trivial ?_)
      refine zv_ift (by decide) ?_
      iterate 4 (refine zv_step (bX7_keep 42) rfl rfl trivial ?_)
      refine zv_step (bX7_keep 42) rfl rfl (show vp_in (nI s) 8 from vp_in_nI (by omega) (by decide)) ?_
      iterate 3 (refine zv_step (bX7_keep 42) rfl rfl trivial ?_)
      refine zv_ift (fun h => absurd ((h1).symm.trans h) (by decide)) ?_
      iterate 3 (refine zv_step (bX7_keep 42) rfl rfl trivial ?_)
      refine zv_ift (fun h => absurd ((h1).symm.trans h) (by decide)) ?_
      iterate 3 (refine zv_step (bX7_keep 42) rfl rfl trivial ?_)
      refine zv_ift (fun h => absurd ((h1).symm.trans h) (by decide)) ?_
      iterate 1 (refine zv_step (bX7_keep 42) rfl rfl trivial ?_)
      exact zv_iret (bX7_keep 42) rfl (Or.inl rfl) (Nat.zero_le _) (Nat.zero_le _) ⟨o, (updA A 9 (upd (A 9) (nI s).toNatClampNeg y)), _, rfl, rfl, fun _ _ => rfl, fun r a b => updA_ne _ _ (by omega), hS⟩
    · skip
      iterate 1 (refine zv_step (bX7_keep 42) rfl rfl trivial ?_)
      refine zv_ift (by decide) ?_
      iterate 1 (refine zv_step (bX7_keep 42) rfl rfl trivial ?_)
      exact zv_iret (bX7_keep 42) rfl (Or.inl rfl) (Nat.zero_le _) (Nat.zero_le _) ⟨o, A, _, rfl, rfl, shM_refl hS⟩
  · iterate 3 (refine zv_step (bX7_keep 42) rfl rfl trivial ?_)
    refine zv_ifb (fun h6 => ?_) (fun h6 => ?_)
    · iterate 4 (refine zv_step (bX7_keep 42) rfl rfl trivial ?_)
      refine zv_S1 (bX7_keep 42) rfl rfl rfl rfl ⟨rfl, rfl, rfl⟩ ⟨by decide, by decide⟩ ⟨Nat.zero_le _, Nat.zero_le _⟩ (hX7_isShelf _ _) ?_
      rintro _ _ ⟨rfl, ⟨g2, rfl⟩ | ⟨g2, rfl⟩⟩
      · obtain ⟨s, hs, rfl⟩ := in_nat (b := 7) (by decide) g2
        iterate 1 (refine zv_step (bX7_keep 42) rfl rfl trivial ?_)
        refine zv_iff (by decide) ?_
        iterate 2 (refine zv_step (bX7_keep 42) rfl rfl trivial ?_)
        refine zv_ift (by decide) ?_
        iterate 4 (refine zv_step (bX7_keep 42) rfl rfl trivial ?_)
        refine zv_step (bX7_keep 42) rfl rfl (show vp_in (nI s) 8 from vp_in_nI (by omega) (by decide)) ?_
        iterate 3 (refine zv_step (bX7_keep 42) rfl rfl trivial ?_)
        refine zv_ift (fun h => absurd ((h6).symm.trans h) (by decide)) ?_
        iterate 3 (refine zv_step (bX7_keep 42) rfl rfl trivial ?_)
        refine zv_iff (fun h => h (h6)) ?_
        iterate 5 (refine zv_step (bX7_keep 42) rfl rfl trivial ?_)
        refine zv_step (bX7_keep 42) rfl rfl (show vp_in (nI s) 8 from vp_in_nI (by omega) (by decide)) ?_
        iterate 2 (refine zv_step (bX7_keep 42) rfl rfl trivial ?_)
        refine zv_world (show _ = wR f o (updA (updA (updA A 9 (upd (A 9) (nI s).toNatClampNeg y)) 12 (upd (A 12) (nI s).toNatClampNeg (o 10))) 13 (A 13)) J from rfl) ?_
        exact keepL f o _ J hh ho10 (by omega) (fun g => ⟨o, _, _, rfl, rfl, fun _ _ => rfl, fun r a b => by rw [updA_ne _ _ (by omega), updA_ne _ _ (by omega), updA_ne _ _ (by omega)], up12 hS ⟨h, by omega, ho10⟩⟩) h 0 (A 13) (by omega) rfl
      · skip
        iterate 1 (refine zv_step (bX7_keep 42) rfl rfl trivial ?_)
        refine zv_ift (by decide) ?_
        iterate 1 (refine zv_step (bX7_keep 42) rfl rfl trivial ?_)
        exact zv_iret (bX7_keep 42) rfl (Or.inl rfl) (Nat.zero_le _) (Nat.zero_le _) ⟨o, A, _, rfl, rfl, shM_refl hS⟩
    · iterate 3 (refine zv_step (bX7_keep 42) rfl rfl trivial ?_)
      refine zv_ifb (fun h11 => ?_) (fun h11 => ?_)
      · iterate 2 (refine zv_step (bX7_keep 42) rfl rfl trivial ?_)
        refine zv_V1 (bX7_keep 42) rfl rfl rfl rfl rfl rfl rfl ⟨rfl, rfl, rfl⟩ ⟨by decide, by decide⟩ ⟨Nat.zero_le _, Nat.zero_le _⟩ (mIsNode f o A J hu ho _) ?_
        rintro _ _ ⟨rfl, ⟨g1, rfl⟩ | ⟨g1, rfl⟩⟩
        · obtain ⟨n, hn, rfl⟩ := nd_of (by omega) g1
          have sn := (rN_sz (hT n (Nat.zero_le _) hn)).2
          iterate 1 (refine zv_step (bX7_keep 42) rfl rfl trivial ?_)
          refine zv_iff (by decide) ?_
          iterate 4 (refine zv_step (bX7_keep 42) rfl rfl trivial ?_)
          refine zv_S1 (bX7_keep 42) rfl rfl rfl rfl ⟨rfl, rfl, rfl⟩ ⟨by decide, by decide⟩ ⟨Nat.zero_le _, Nat.zero_le _⟩ (hX7_isShelf _ _) ?_
          rintro _ _ ⟨rfl, ⟨g2, rfl⟩ | ⟨g2, rfl⟩⟩
          · obtain ⟨s, hs, rfl⟩ := in_nat (b := 7) (by decide) g2
            iterate 1 (refine zv_step (bX7_keep 42) rfl rfl trivial ?_)
            refine zv_iff (by decide) ?_
            iterate 2 (refine zv_step (bX7_keep 42) rfl rfl trivial ?_)
            refine zv_ift (by decide) ?_
            iterate 4 (refine zv_step (bX7_keep 42) rfl rfl trivial ?_)
            refine zv_step (bX7_keep 42) rfl rfl (show vp_in (nI s) 8 from vp_in_nI (by omega) (by decide)) ?_
            iterate 3 (refine zv_step (bX7_keep 42) rfl rfl trivial ?_)
            refine zv_iff (fun h => h (h11)) ?_
            iterate 6 (refine zv_step (bX7_keep 42) rfl rfl trivial ?_)
            refine zv_iale (bX7_keep 42) rfl rfl (vp_in_nI (by omega) (by decide)) (show A 0 (nI n).toNatClampNeg = A 0 n by rw [nI_clamp (by omega)]) ?_
            refine zv_step (bX7_keep 42) rfl rfl (show vp_in (nI s) 8 from vp_in_nI (by omega) (by decide)) ?_
            iterate 6 (refine zv_step (bX7_keep 42) rfl rfl trivial ?_)
            refine zv_iale (bX7_keep 42) rfl rfl (vp_in_nI (by omega) (by decide)) (show A 1 (nI n).toNatClampNeg = A 1 n by rw [nI_clamp (by omega)]) ?_
            refine zv_step (bX7_keep 42) rfl rfl (show vp_in (nI s) 8 from vp_in_nI (by omega) (by decide)) ?_
            iterate 6 (refine zv_step (bX7_keep 42) rfl rfl trivial ?_)
            refine zv_iale (bX7_keep 42) rfl rfl (vp_in_nI (by omega) (by decide)) (show A 4 (nI n).toNatClampNeg = nI (szN A n) by rw [nI_clamp (by omega)]; exact sn.2) ?_
            refine zv_step (bX7_keep 42) rfl rfl (show vp_in (nI s) 8 from vp_in_nI (by omega) (by decide)) ?_
            iterate 2 (refine zv_step (bX7_keep 42) rfl rfl trivial ?_)
            exact zv_iret (bX7_keep 42) rfl (Or.inl rfl) (Nat.zero_le _) (Nat.zero_le _) ⟨o, (updA (updA (updA (updA A 9 (upd (A 9) (nI s).toNatClampNeg y)) 10 (upd (A 10) (nI s).toNatClampNeg (A 0 n))) 11 (upd (A 11) (nI s).toNatClampNeg (A 1 n))) 12 (upd (A 12) (nI s).toNatClampNeg (nI (szN A n)))), _, rfl, rfl, fun _ _ => rfl, fun r a b => by rw [updA_ne _ _ (by omega), updA_ne _ _ (by omega), updA_ne _ _ (by omega), updA_ne _ _ (by omega)], up12 hS ⟨_, by omega, rfl⟩⟩
          · skip
            iterate 1 (refine zv_step (bX7_keep 42) rfl rfl trivial ?_)
            refine zv_ift (by decide) ?_
            iterate 1 (refine zv_step (bX7_keep 42) rfl rfl trivial ?_)
            exact zv_iret (bX7_keep 42) rfl (Or.inl rfl) (Nat.zero_le _) (Nat.zero_le _) ⟨o, A, _, rfl, rfl, shM_refl hS⟩
        · skip
          iterate 1 (refine zv_step (bX7_keep 42) rfl rfl trivial ?_)
          refine zv_ift (by decide) ?_
          iterate 3 (refine zv_step (bX7_keep 42) rfl rfl trivial ?_)
          refine zv_S1 (bX7_keep 42) rfl rfl rfl rfl ⟨rfl, rfl, rfl⟩ ⟨by decide, by decide⟩ ⟨Nat.zero_le _, Nat.zero_le _⟩ (hX7_isShelf _ _) ?_
          rintro _ _ ⟨rfl, ⟨g2, rfl⟩ | ⟨g2, rfl⟩⟩
          · obtain ⟨s, hs, rfl⟩ := in_nat (b := 7) (by decide) g2
            iterate 1 (refine zv_step (bX7_keep 42) rfl rfl trivial ?_)
            refine zv_iff (by decide) ?_
            iterate 2 (refine zv_step (bX7_keep 42) rfl rfl trivial ?_)
            refine zv_iff (by decide) ?_
            iterate 1 (refine zv_step (bX7_keep 42) rfl rfl trivial ?_)
            exact zv_iret (bX7_keep 42) rfl (Or.inl rfl) (Nat.zero_le _) (Nat.zero_le _) ⟨o, A, _, rfl, rfl, shM_refl hS⟩
          · skip
            iterate 1 (refine zv_step (bX7_keep 42) rfl rfl trivial ?_)
            refine zv_ift (by decide) ?_
            iterate 1 (refine zv_step (bX7_keep 42) rfl rfl trivial ?_)
            exact zv_iret (bX7_keep 42) rfl (Or.inl rfl) (Nat.zero_le _) (Nat.zero_le _) ⟨o, A, _, rfl, rfl, shM_refl hS⟩
      · iterate 3 (refine zv_step (bX7_keep 42) rfl rfl trivial ?_)
        refine zv_ifb (fun h16 => ?_) (fun h16 => ?_)
        · iterate 3 (refine zv_step (bX7_keep 42) rfl rfl trivial ?_)
          refine zv_S1 (bX7_keep 42) rfl rfl rfl rfl ⟨rfl, rfl, rfl⟩ ⟨by decide, by decide⟩ ⟨Nat.zero_le _, Nat.zero_le _⟩ (hX7_isShelf _ _) ?_
          rintro _ _ ⟨rfl, ⟨g2, rfl⟩ | ⟨g2, rfl⟩⟩
          · obtain ⟨s, hs, rfl⟩ := in_nat (b := 7) (by decide) g2
            iterate 1 (refine zv_step (bX7_keep 42) rfl rfl trivial ?_)
            refine zv_iff (by decide) ?_
            iterate 2 (refine zv_step (bX7_keep 42) rfl rfl trivial ?_)
            refine zv_iff (by decide) ?_
            iterate 1 (refine zv_step (bX7_keep 42) rfl rfl trivial ?_)
            exact zv_iret (bX7_keep 42) rfl (Or.inl rfl) (Nat.zero_le _) (Nat.zero_le _) ⟨o, A, _, rfl, rfl, shM_refl hS⟩
          · skip
            iterate 1 (refine zv_step (bX7_keep 42) rfl rfl trivial ?_)
            refine zv_ift (by decide) ?_
            iterate 1 (refine zv_step (bX7_keep 42) rfl rfl trivial ?_)
            exact zv_iret (bX7_keep 42) rfl (Or.inl rfl) (Nat.zero_le _) (Nat.zero_le _) ⟨o, A, _, rfl, rfl, shM_refl hS⟩
        · iterate 2 (refine zv_step (bX7_keep 42) rfl rfl trivial ?_)
          refine zv_V1 (bX7_keep 42) rfl rfl rfl rfl rfl rfl rfl ⟨rfl, rfl, rfl⟩ ⟨by decide, by decide⟩ ⟨Nat.zero_le _, Nat.zero_le _⟩ (mIsNode f o A J hu ho _) ?_
          rintro _ _ ⟨rfl, ⟨g1, rfl⟩ | ⟨g1, rfl⟩⟩
          · obtain ⟨n, hn, rfl⟩ := nd_of (by omega) g1
            have sn := (rN_sz (hT n (Nat.zero_le _) hn)).2
            iterate 1 (refine zv_step (bX7_keep 42) rfl rfl trivial ?_)
            refine zv_iff (by decide) ?_
            iterate 4 (refine zv_step (bX7_keep 42) rfl rfl trivial ?_)
            refine zv_S1 (bX7_keep 42) rfl rfl rfl rfl ⟨rfl, rfl, rfl⟩ ⟨by decide, by decide⟩ ⟨Nat.zero_le _, Nat.zero_le _⟩ (hX7_isShelf _ _) ?_
            rintro _ _ ⟨rfl, ⟨g2, rfl⟩ | ⟨g2, rfl⟩⟩
            · obtain ⟨s, hs, rfl⟩ := in_nat (b := 7) (by decide) g2
              iterate 1 (refine zv_step (bX7_keep 42) rfl rfl trivial ?_)
              refine zv_iff (by decide) ?_
              iterate 2 (refine zv_step (bX7_keep 42) rfl rfl trivial ?_)
              refine zv_ift (by decide) ?_
              iterate 4 (refine zv_step (bX7_keep 42) rfl rfl trivial ?_)
              refine zv_step (bX7_keep 42) rfl rfl (show vp_in (nI s) 8 from vp_in_nI (by omega) (by decide)) ?_
              iterate 3 (refine zv_step (bX7_keep 42) rfl rfl trivial ?_)
              refine zv_ift (fun h => absurd ((Decidable.not_not.mp h16).symm.trans h) (by decide)) ?_
              iterate 3 (refine zv_step (bX7_keep 42) rfl rfl trivial ?_)
              refine zv_ift (fun h => absurd ((Decidable.not_not.mp h16).symm.trans h) (by decide)) ?_
              iterate 3 (refine zv_step (bX7_keep 42) rfl rfl trivial ?_)
              refine zv_iff (fun h => h (Decidable.not_not.mp h16)) ?_
              iterate 3 (refine zv_step (bX7_keep 42) rfl rfl trivial ?_)
              refine zv_world (show _ = wR f (upd o 34 (nI 0)) (updA (updA A 9 (upd (A 9) (nI s).toNatClampNeg y)) 13 (A 13)) J from rfl) ?_
              iterate 3 (refine zv_step (bX7_keep 42) rfl rfl trivial ?_)
              refine zv_V2 (bX7_keep 42) rfl rfl rfl rfl rfl rfl rfl ⟨rfl, rfl, rfl⟩ ⟨by decide, by decide⟩ ⟨Nat.zero_le _, Nat.zero_le _⟩ (mKinds f o (updA A 9 (upd (A 9) (nI s).toNatClampNeg y)) J (by omega) (tbI_u hT (by decide) _) (by omega) 40 n (Nat.zero_le _) hn (show szN A n ≤ 40 from sn.1) 0 _ (show 0 + szN A n ≤ 60 by omega)) ?_
              rintro _ _ ⟨rfl, g5, rfl⟩
              iterate 5 (refine zv_step (bX7_keep 42) rfl rfl trivial ?_)
              refine zv_step (bX7_keep 42) rfl rfl (show vp_in (nI s) 8 from vp_in_nI (by omega) (by decide)) ?_
              iterate 1 (refine zv_step (bX7_keep 42) rfl rfl trivial ?_)
              exact zv_iret (bX7_keep 42) rfl (Or.inl rfl) (Nat.zero_le _) (Nat.zero_le _) ⟨upd o 34 (nI (0 + szN A n)), (updA (updA (updA A 9 (upd (A 9) (nI s).toNatClampNeg y)) 13 g5) 12 (upd (A 12) (nI s).toNatClampNeg (nI (0 + szN A n)))), _, rfl, rfl, fun j a => upd_ne _ _ a, fun r a b => by rw [updA_ne _ _ (by omega), updA_ne _ _ (by omega), updA_ne _ _ (by omega)], up12 hS ⟨_, by omega, rfl⟩⟩
            · skip
              iterate 1 (refine zv_step (bX7_keep 42) rfl rfl trivial ?_)
              refine zv_ift (by decide) ?_
              iterate 1 (refine zv_step (bX7_keep 42) rfl rfl trivial ?_)
              exact zv_iret (bX7_keep 42) rfl (Or.inl rfl) (Nat.zero_le _) (Nat.zero_le _) ⟨o, A, _, rfl, rfl, shM_refl hS⟩
          · skip
            iterate 1 (refine zv_step (bX7_keep 42) rfl rfl trivial ?_)
            refine zv_ift (by decide) ?_
            iterate 3 (refine zv_step (bX7_keep 42) rfl rfl trivial ?_)
            refine zv_S1 (bX7_keep 42) rfl rfl rfl rfl ⟨rfl, rfl, rfl⟩ ⟨by decide, by decide⟩ ⟨Nat.zero_le _, Nat.zero_le _⟩ (hX7_isShelf _ _) ?_
            rintro _ _ ⟨rfl, ⟨g2, rfl⟩ | ⟨g2, rfl⟩⟩
            · obtain ⟨s, hs, rfl⟩ := in_nat (b := 7) (by decide) g2
              iterate 1 (refine zv_step (bX7_keep 42) rfl rfl trivial ?_)
              refine zv_iff (by decide) ?_
              iterate 2 (refine zv_step (bX7_keep 42) rfl rfl trivial ?_)
              refine zv_iff (by decide) ?_
              iterate 1 (refine zv_step (bX7_keep 42) rfl rfl trivial ?_)
              exact zv_iret (bX7_keep 42) rfl (Or.inl rfl) (Nat.zero_le _) (Nat.zero_le _) ⟨o, A, _, rfl, rfl, shM_refl hS⟩
            · skip
              iterate 1 (refine zv_step (bX7_keep 42) rfl rfl trivial ?_)
              refine zv_ift (by decide) ?_
              iterate 1 (refine zv_step (bX7_keep 42) rfl rfl trivial ?_)
              exact zv_iret (bX7_keep 42) rfl (Or.inl rfl) (Nat.zero_le _) (Nat.zero_le _) ⟨o, A, _, rfl, rfl, shM_refl hS⟩
set_option maxHeartbeats 1000000 in
set_option maxRecDepth 20000 in
theorem makeL (f : Nat → zC) (o : Nat → Int32) (A : Nat → Nat → Int32) (J : Nat → Nat → Int64) {n s : Nat} (hn : n ≤ 60) (hs : s < 8) {y : Int32} {n0 : Nat} {Q : Option Value → zW → Prop} (hQ : ∀ g, Q (some (.int (Int32.ofInt 0))) (wR f o (updA A 13 g) J)) : ∀ (c i : Nat) (g : Nat → Int32), i + c = n → ∀ {x4 : Int32}, x4 = nI i → zV (zMo 2 zX7_make) false n0 0 0 53 [(4, .int x4), (0, .ref 76), (1, .int (nI s)), (2, .int y), (3, .int (nI n))] [] (wR f o (updA A 13 g) J) Q := by
  intro c
  induction c with
  | zero =>
    intro i g hc x4 e4
    subst e4
    iterate 3 (refine zv_step (bX7_make 2) rfl rfl trivial ?_)
    refine zv_ift (nI_le (by omega) (by omega)) ?_
    iterate 1 (refine zv_step (bX7_make 2) rfl rfl trivial ?_)
    exact zv_iret (bX7_make 2) rfl (Or.inl rfl) (Nat.zero_le _) (Nat.zero_le _) (hQ g)
  | succ c ih =>
    intro i g hc x4 e4
    subst e4
    iterate 3 (refine zv_step (bX7_make 2) rfl rfl trivial ?_)
    refine zv_iff (fun h => absurd ((nI_leI (by omega) (by omega)).mp h) (by omega)) ?_
    iterate 8 (refine zv_step (bX7_make 2) rfl rfl trivial ?_)
    refine zv_step (bX7_make 2) rfl rfl (show vp_in (c8 60 * nI s + nI i) 480 by rw [ix60]; exact vp_in_nI (by omega) (by decide)) ?_
    iterate 2 (refine zv_step (bX7_make 2) rfl rfl trivial ?_)
    refine zv_world (show _ = wR f o (updA A 13 (upd g (c8 60 * nI s + nI i).toNatClampNeg (Int32.ofInt 0))) J from rfl) ?_
    exact ih (i + 1) _ (by omega) (nI_1 i)
set_option maxHeartbeats 1000000 in
set_option maxRecDepth 20000 in
theorem mMake (f : Nat → zC) (o : Nat → Int32) (A : Nat → Nat → Int32) (J : Nat → Nat → Int64) (hS : szS A) (d y x : Int32) : zK 2 zX7_make [.ref 76, .int d, .int y, .int x] (wR f o A J) (fun r w' => ∃ (o' : Nat → Int32) (A' : Nat → Nat → Int32) (R : Int32), r = some (.int R) ∧ w' = wR f o' A' J ∧ shM o A o' A') := by
  refine zK_of qX7_make (by decide +kernel) rfl ?_
  iterate 1 (refine zv_step (bX7_make 2) rfl rfl trivial ?_)
  refine zv_S1 (bX7_make 2) rfl rfl rfl rfl ⟨rfl, rfl, rfl⟩ ⟨by decide, by decide⟩ ⟨Nat.zero_le _, Nat.zero_le _⟩ (hX7_isShelf _ _) ?_
  rintro _ _ ⟨rfl, ⟨g2, rfl⟩ | ⟨g2, rfl⟩⟩
  · obtain ⟨s, hs, rfl⟩ := in_nat (b := 7) (by decide) g2
    iterate 1 (refine zv_step (bX7_make 2) rfl rfl trivial ?_)
    refine zv_iff (by decide) ?_
    iterate 4 (refine zv_step (bX7_make 2) rfl rfl trivial ?_)
    refine zv_S3 (bX7_make 2) rfl rfl rfl rfl ⟨rfl, rfl, rfl⟩ ⟨by decide, by decide⟩ ⟨Nat.zero_le _, Nat.zero_le _⟩ (mIn _ _ _ _ (a := 3) (b := 4) (by decide) (by decide)) ?_
    rintro _ _ ⟨rfl, ⟨g3, rfl⟩ | ⟨g3, rfl⟩⟩
    · skip
      iterate 1 (refine zv_step (bX7_make 2) rfl rfl trivial ?_)
      refine zv_iff (by decide) ?_
      iterate 3 (refine zv_step (bX7_make 2) rfl rfl trivial ?_)
      refine zv_ifb (fun h24 => ?_) (fun h24 => ?_)
      · iterate 2 (refine zv_step (bX7_make 2) rfl rfl trivial ?_)
        refine zv_ifb (fun h30 => ?_) (fun h30 => ?_)
        · obtain ⟨n, hn, rfl⟩ := in_nat (x := x) (b := 60) (by decide) ⟨by have a1 : (0 : Int32) ≤ x := h30; rwa [Int32.le_iff_toInt_le, Int32.toInt_zero] at a1, by have a2 : x ≤ c8 60 := h24; rwa [Int32.le_iff_toInt_le, show (c8 60).toInt = 60 from rfl] at a2⟩
          iterate 4 (refine zv_step (bX7_make 2) rfl rfl trivial ?_)
          refine zv_step (bX7_make 2) rfl rfl (show vp_in (nI s) 8 from vp_in_nI (by omega) (by decide)) ?_
          iterate 4 (refine zv_step (bX7_make 2) rfl rfl trivial ?_)
          refine zv_step (bX7_make 2) rfl rfl (show vp_in (nI s) 8 from vp_in_nI (by omega) (by decide)) ?_
          iterate 2 (refine zv_step (bX7_make 2) rfl rfl trivial ?_)
          refine zv_world (show _ = wR f o (updA (updA (updA A 9 (upd (A 9) (nI s).toNatClampNeg y)) 12 (upd (A 12) (nI s).toNatClampNeg (nI n))) 13 (A 13)) J from rfl) ?_
          exact makeL f o _ J hn (by omega) (fun g => ⟨o, _, _, rfl, rfl, fun _ _ => rfl, fun r a b => by rw [updA_ne _ _ (by omega), updA_ne _ _ (by omega), updA_ne _ _ (by omega)], up12 hS ⟨n, hn, rfl⟩⟩) n 0 (A 13) (by omega) rfl
        · iterate 1 (refine zv_step (bX7_make 2) rfl rfl trivial ?_)
          exact zv_iret (bX7_make 2) rfl (Or.inl rfl) (Nat.zero_le _) (Nat.zero_le _) ⟨o, A, _, rfl, rfl, shM_refl hS⟩
      · iterate 1 (refine zv_step (bX7_make 2) rfl rfl trivial ?_)
        exact zv_iret (bX7_make 2) rfl (Or.inl rfl) (Nat.zero_le _) (Nat.zero_le _) ⟨o, A, _, rfl, rfl, shM_refl hS⟩
    · skip
      iterate 1 (refine zv_step (bX7_make 2) rfl rfl trivial ?_)
      refine zv_ift (by decide) ?_
      iterate 1 (refine zv_step (bX7_make 2) rfl rfl trivial ?_)
      exact zv_iret (bX7_make 2) rfl (Or.inl rfl) (Nat.zero_le _) (Nat.zero_le _) ⟨o, A, _, rfl, rfl, shM_refl hS⟩
  · skip
    iterate 1 (refine zv_step (bX7_make 2) rfl rfl trivial ?_)
    refine zv_ift (by decide) ?_
    iterate 1 (refine zv_step (bX7_make 2) rfl rfl trivial ?_)
    exact zv_iret (bX7_make 2) rfl (Or.inl rfl) (Nat.zero_le _) (Nat.zero_le _) ⟨o, A, _, rfl, rfl, shM_refl hS⟩
set_option maxHeartbeats 1000000 in
set_option maxRecDepth 20000 in
theorem mElement (f : Nat → zC) (o : Nat → Int32) (A : Nat → Nat → Int32) (J : Nat → Nat → Int64) (hS : szS A) (d x : Int32) : zK 2 zX7_element [.ref 76, .int d, .int x] (wR f o A J) (fun r w' => ∃ (R : Int64) (t : Int32), r = some (.long R) ∧ w' = wR f (upd o 16 t) A J) := by
  refine zK_of qX7_element (by decide +kernel) rfl ?_
  iterate 2 (refine zv_step (bX7_element 2) rfl rfl trivial ?_)
  refine zv_S1 (bX7_element 2) rfl rfl rfl rfl ⟨rfl, rfl, rfl⟩ ⟨by decide, by decide⟩ ⟨Nat.zero_le _, Nat.zero_le _⟩ (hX7_isShelf _ _) ?_
  rintro _ _ ⟨rfl, ⟨g2, rfl⟩ | ⟨g2, rfl⟩⟩
  · obtain ⟨s, hs, rfl⟩ := in_nat (b := 7) (by decide) g2
    obtain ⟨m, hm, em⟩ := hS s (by omega)
    iterate 1 (refine zv_step (bX7_element 2) rfl rfl trivial ?_)
    refine zv_ift (by decide) ?_
    iterate 3 (refine zv_step (bX7_element 2) rfl rfl trivial ?_)
    refine zv_step (bX7_element 2) rfl rfl (show vp_in (nI s) 8 from vp_in_nI (by omega) (by decide)) ?_
    iterate 2 (refine zv_step (bX7_element 2) rfl rfl trivial ?_)
    refine zv_ifb (fun h19 => ?_) (fun h19 => ?_)
    · iterate 6 (refine zv_step (bX7_element 2) rfl rfl trivial ?_)
      refine zv_ift (by decide) ?_
      iterate 1 (refine zv_step (bX7_element 2) rfl rfl trivial ?_)
      exact zv_lret (bX7_element 2) rfl rfl (Nat.zero_le _) (Nat.zero_le _) ⟨_, Int32.ofInt 2, rfl, rfl⟩
    · iterate 6 (refine zv_step (bX7_element 2) rfl rfl trivial ?_)
      refine zv_iale (bX7_element 2) rfl rfl (show vp_in (nI s) 8 from vp_in_nI (by omega) (by decide)) (show A 12 (nI s).toNatClampNeg = nI m by rw [nI_clamp (by omega)]; exact em) ?_
      iterate 3 (refine zv_step (bX7_element 2) rfl rfl trivial ?_)
      refine zv_S3 (bX7_element 2) rfl rfl rfl rfl ⟨rfl, rfl, rfl⟩ ⟨by decide, by decide⟩ ⟨Nat.zero_le _, Nat.zero_le _⟩ (mIn _ _ _ _ (a := 0) (b := (m : Int) - 1) (by decide) (by rw [Int32.toInt_toInt64]; exact pred_toInt (by omega))) ?_
      rintro _ _ ⟨rfl, ⟨g3, rfl⟩ | ⟨g3, rfl⟩⟩
      · obtain ⟨i, hi, rfl⟩ := nd_of (u := m) (by omega) g3
        iterate 1 (refine zv_step (bX7_element 2) rfl rfl trivial ?_)
        refine zv_ift (by decide) ?_
        iterate 5 (refine zv_step (bX7_element 2) rfl rfl trivial ?_)
        refine zv_iff (by decide) ?_
        iterate 7 (refine zv_step (bX7_element 2) rfl rfl trivial ?_)
        refine zv_step (bX7_element 2) rfl rfl (show vp_in (c8 60 * nI s + nI i) 480 by rw [ix60]; exact vp_in_nI (by omega) (by decide)) ?_
        iterate 2 (refine zv_step (bX7_element 2) rfl rfl trivial ?_)
        exact zv_lret (bX7_element 2) rfl rfl (Nat.zero_le _) (Nat.zero_le _) ⟨_, Int32.ofInt 0, rfl, rfl⟩
      · skip
        iterate 1 (refine zv_step (bX7_element 2) rfl rfl trivial ?_)
        refine zv_iff (by decide) ?_
        iterate 6 (refine zv_step (bX7_element 2) rfl rfl trivial ?_)
        refine zv_ift (by decide) ?_
        iterate 1 (refine zv_step (bX7_element 2) rfl rfl trivial ?_)
        exact zv_lret (bX7_element 2) rfl rfl (Nat.zero_le _) (Nat.zero_le _) ⟨_, Int32.ofInt 2, rfl, rfl⟩
  · skip
    iterate 1 (refine zv_step (bX7_element 2) rfl rfl trivial ?_)
    refine zv_iff (by decide) ?_
    iterate 6 (refine zv_step (bX7_element 2) rfl rfl trivial ?_)
    refine zv_ift (by decide) ?_
    iterate 1 (refine zv_step (bX7_element 2) rfl rfl trivial ?_)
    exact zv_lret (bX7_element 2) rfl rfl (Nat.zero_le _) (Nat.zero_le _) ⟨_, Int32.ofInt 1, rfl, rfl⟩
set_option maxHeartbeats 1000000 in
set_option maxRecDepth 20000 in
theorem copyL2 (f : Nat → zC) (o : Nat → Int32) (A : Nat → Nat → Int32) (J : Nat → Nat → Int64) {n s a t b : Nat} (hs : s < 8) (ht : t < 8) (ha : a + n ≤ 60) (hb : b + n ≤ 60) {n0 : Nat} {Q : Option Value → zW → Prop} (hQ : ∀ g, Q (some (.int (nI n))) (wR f o (updA A 13 g) J)) : ∀ (c i : Nat) (g : Nat → Int32), i + c = n → ∀ {x6 : Int32}, x6 = nI i → zV (zMo 2 zX7_copy) false n0 0 0 149 [(6, .int x6), (0, .ref 76), (1, .int (nI s)), (2, .int (nI a)), (3, .int (nI t)), (4, .int (nI b)), (5, .int (nI n))] [] (wR f o (updA A 13 g) J) Q := by
  intro c
  induction c with
  | zero =>
    intro i g hc x6 e6
    subst e6
    iterate 3 (refine zv_step (bX7_copy 2) rfl rfl trivial ?_)
    refine zv_ift (nI_le (by omega) (by omega)) ?_
    iterate 1 (refine zv_step (bX7_copy 2) rfl rfl trivial ?_)
    exact zv_iret (bX7_copy 2) rfl (Or.inl rfl) (Nat.zero_le _) (Nat.zero_le _) (hQ g)
  | succ c ih =>
    intro i g hc x6 e6
    subst e6
    iterate 3 (refine zv_step (bX7_copy 2) rfl rfl trivial ?_)
    refine zv_iff (fun h => absurd ((nI_leI (by omega) (by omega)).mp h) (by omega)) ?_
    iterate 12 (refine zv_step (bX7_copy 2) rfl rfl trivial ?_)
    refine zv_step (bX7_copy 2) rfl rfl (vp_in_nI (by omega) (by decide)) ?_
    refine zv_step (bX7_copy 2) rfl rfl (show vp_in (c8 60 * nI t + nI b + nI i) 480 by rw [ix60, nI_add]; exact vp_in_nI (by omega) (by decide)) ?_
    iterate 2 (refine zv_step (bX7_copy 2) rfl rfl trivial ?_)
    refine zv_world (show _ = wR f o (updA A 13 (upd g (c8 60 * nI t + nI b + nI i).toNatClampNeg (A 15 (nI i).toNatClampNeg))) J from rfl) ?_
    exact ih (i + 1) _ (by omega) (nI_1 i)
set_option maxHeartbeats 1000000 in
set_option maxRecDepth 20000 in
theorem copyL1 (f : Nat → zC) (o : Nat → Int32) (A : Nat → Nat → Int32) (J : Nat → Nat → Int64) {n s a t b : Nat} (hs : s < 8) (ht : t < 8) (ha : a + n ≤ 60) (hb : b + n ≤ 60) {n0 : Nat} {Q : Option Value → zW → Prop} (hQ : ∀ g g', Q (some (.int (nI n))) (wR f o (updA (updA A 15 g) 13 g') J)) : ∀ (c i : Nat) (g : Nat → Int32), i + c = n → ∀ {x6 : Int32}, x6 = nI i → zV (zMo 2 zX7_copy) false n0 0 0 112 [(6, .int x6), (0, .ref 76), (1, .int (nI s)), (2, .int (nI a)), (3, .int (nI t)), (4, .int (nI b)), (5, .int (nI n))] [] (wR f o (updA A 15 g) J) Q := by
  intro c
  induction c with
  | zero =>
    intro i g hc x6 e6
    subst e6
    iterate 3 (refine zv_step (bX7_copy 2) rfl rfl trivial ?_)
    refine zv_ift (nI_le (by omega) (by omega)) ?_
    iterate 2 (refine zv_step (bX7_copy 2) rfl rfl trivial ?_)
    refine zv_world (show _ = wR f o (updA (updA A 15 g) 13 (A 13)) J from rfl) ?_
    exact copyL2 f o (updA A 15 g) J hs ht ha hb (fun g' => hQ g g') n 0 (A 13) (by omega) rfl
  | succ c ih =>
    intro i g hc x6 e6
    subst e6
    iterate 3 (refine zv_step (bX7_copy 2) rfl rfl trivial ?_)
    refine zv_iff (fun h => absurd ((nI_leI (by omega) (by omega)).mp h) (by omega)) ?_
    iterate 12 (refine zv_step (bX7_copy 2) rfl rfl trivial ?_)
    refine zv_step (bX7_copy 2) rfl rfl (show vp_in (c8 60 * nI s + nI a + nI i) 480 by rw [ix60, nI_add]; exact vp_in_nI (by omega) (by decide)) ?_
    refine zv_step (bX7_copy 2) rfl rfl (vp_in_nI (by omega) (by decide)) ?_
    iterate 2 (refine zv_step (bX7_copy 2) rfl rfl trivial ?_)
    refine zv_world (show _ = wR f o (updA A 15 (upd g (nI i).toNatClampNeg (A 13 (c8 60 * nI s + nI a + nI i).toNatClampNeg))) J from rfl) ?_
    exact ih (i + 1) _ (by omega) (nI_1 i)
theorem span_ab {m : Nat} {i n : Int32} (hm : m ≤ 60) (h1 : ¬ i < 0) (h2 : ¬ n < 0) (h : i ≤ nI m - n) : ∃ a c : Nat, i = nI a ∧ n = nI c ∧ a + c ≤ 60 := by
  obtain ⟨a, ha, rfl⟩ := nI_of h1
  obtain ⟨c, hc, rfl⟩ := nI_of h2
  have := (span_le hm ⟨Int32.not_lt.mp h1, Int32.not_lt.mp h2, h⟩).1
  rw [nI_clamp ha, nI_clamp hc] at this
  exact ⟨a, c, rfl, rfl, this⟩
set_option maxHeartbeats 1000000 in
set_option maxRecDepth 20000 in
theorem mCopy (f : Nat → zC) (o : Nat → Int32) (A : Nat → Nat → Int32) (J : Nat → Nat → Int64) (hS : szS A) (d x e y z : Int32) : zK 2 zX7_copy [.ref 76, .int d, .int x, .int e, .int y, .int z] (wR f o A J) (fun r w' => ∃ (o' : Nat → Int32) (A' : Nat → Nat → Int32) (R : Int32), r = some (.int R) ∧ w' = wR f o' A' J ∧ shM o A o' A') := by
  refine zK_of qX7_copy (by decide +kernel) rfl ?_
  iterate 1 (refine zv_step (bX7_copy 2) rfl rfl trivial ?_)
  refine zv_S1 (bX7_copy 2) rfl rfl rfl rfl ⟨rfl, rfl, rfl⟩ ⟨by decide, by decide⟩ ⟨Nat.zero_le _, Nat.zero_le _⟩ (hX7_isShelf _ _) ?_
  rintro _ _ ⟨rfl, ⟨g1, rfl⟩ | ⟨g1, rfl⟩⟩
  · obtain ⟨s, hs, rfl⟩ := in_nat (b := 7) (by decide) g1
    obtain ⟨m, hm, em⟩ := hS s (by omega)
    iterate 1 (refine zv_step (bX7_copy 2) rfl rfl trivial ?_)
    refine zv_iff (by decide) ?_
    iterate 1 (refine zv_step (bX7_copy 2) rfl rfl trivial ?_)
    refine zv_S1 (bX7_copy 2) rfl rfl rfl rfl ⟨rfl, rfl, rfl⟩ ⟨by decide, by decide⟩ ⟨Nat.zero_le _, Nat.zero_le _⟩ (hX7_isShelf _ _) ?_
    rintro _ _ ⟨rfl, ⟨g2, rfl⟩ | ⟨g2, rfl⟩⟩
    · obtain ⟨t, ht, rfl⟩ := in_nat (b := 7) (by decide) g2
      obtain ⟨l, hl, el⟩ := hS t (by omega)
      iterate 1 (refine zv_step (bX7_copy 2) rfl rfl trivial ?_)
      refine zv_ift (by decide) ?_
      iterate 3 (refine zv_step (bX7_copy 2) rfl rfl trivial ?_)
      refine zv_step (bX7_copy 2) rfl rfl (show vp_in (nI s) 8 from vp_in_nI (by omega) (by decide)) ?_
      iterate 1 (refine zv_step (bX7_copy 2) rfl rfl trivial ?_)
      refine zv_ifb (fun h22 => ?_) (fun h22 => ?_)
      · iterate 1 (refine zv_step (bX7_copy 2) rfl rfl trivial ?_)
        exact zv_iret (bX7_copy 2) rfl (Or.inl rfl) (Nat.zero_le _) (Nat.zero_le _) ⟨o, A, _, rfl, rfl, shM_refl hS⟩
      · iterate 3 (refine zv_step (bX7_copy 2) rfl rfl trivial ?_)
        refine zv_step (bX7_copy 2) rfl rfl (show vp_in (nI t) 8 from vp_in_nI (by omega) (by decide)) ?_
        iterate 1 (refine zv_step (bX7_copy 2) rfl rfl trivial ?_)
        refine zv_ifb (fun h31 => ?_) (fun h31 => ?_)
        · iterate 3 (refine zv_step (bX7_copy 2) rfl rfl trivial ?_)
          refine zv_step (bX7_copy 2) rfl rfl (show vp_in (nI s) 8 from vp_in_nI (by omega) (by decide)) ?_
          iterate 2 (refine zv_step (bX7_copy 2) rfl rfl trivial ?_)
          refine zv_ifb (fun h44 => ?_) (fun h44 => ?_)
          · iterate 1 (refine zv_step (bX7_copy 2) rfl rfl trivial ?_)
            exact zv_iret (bX7_copy 2) rfl (Or.inl rfl) (Nat.zero_le _) (Nat.zero_le _) ⟨o, A, _, rfl, rfl, shM_refl hS⟩
          · iterate 3 (refine zv_step (bX7_copy 2) rfl rfl trivial ?_)
            refine zv_step (bX7_copy 2) rfl rfl (show vp_in (nI s) 8 from vp_in_nI (by omega) (by decide)) ?_
            iterate 3 (refine zv_step (bX7_copy 2) rfl rfl trivial ?_)
            refine zv_step (bX7_copy 2) rfl rfl (show vp_in (nI t) 8 from vp_in_nI (by omega) (by decide)) ?_
            iterate 1 (refine zv_step (bX7_copy 2) rfl rfl trivial ?_)
            refine zv_ifb (fun h59 => ?_) (fun h59 => ?_)
            · iterate 2 (refine zv_step (bX7_copy 2) rfl rfl trivial ?_)
              refine zv_ifb (fun h67 => ?_) (fun h67 => ?_)
              · iterate 1 (refine zv_step (bX7_copy 2) rfl rfl trivial ?_)
                exact zv_iret (bX7_copy 2) rfl (Or.inl rfl) (Nat.zero_le _) (Nat.zero_le _) ⟨o, A, _, rfl, rfl, shM_refl hS⟩
              · iterate 2 (refine zv_step (bX7_copy 2) rfl rfl trivial ?_)
                refine zv_ifb (fun h71 => ?_) (fun h71 => ?_)
                · iterate 1 (refine zv_step (bX7_copy 2) rfl rfl trivial ?_)
                  exact zv_iret (bX7_copy 2) rfl (Or.inl rfl) (Nat.zero_le _) (Nat.zero_le _) ⟨o, A, _, rfl, rfl, shM_refl hS⟩
                · iterate 2 (refine zv_step (bX7_copy 2) rfl rfl trivial ?_)
                  refine zv_ifb (fun h76 => ?_) (fun h76 => ?_)
                  · iterate 1 (refine zv_step (bX7_copy 2) rfl rfl trivial ?_)
                    exact zv_iret (bX7_copy 2) rfl (Or.inl rfl) (Nat.zero_le _) (Nat.zero_le _) ⟨o, A, _, rfl, rfl, shM_refl hS⟩
                  · iterate 4 (refine zv_step (bX7_copy 2) rfl rfl trivial ?_)
                    refine zv_iale (bX7_copy 2) rfl rfl (show vp_in (nI s) 8 from vp_in_nI (by omega) (by decide)) (show A 12 (nI s).toNatClampNeg = nI m by rw [nI_clamp (by omega)]; exact em) ?_
                    iterate 3 (refine zv_step (bX7_copy 2) rfl rfl trivial ?_)
                    refine zv_ifb (fun h89 => ?_) (fun h89 => ?_)
                    · iterate 1 (refine zv_step (bX7_copy 2) rfl rfl trivial ?_)
                      exact zv_iret (bX7_copy 2) rfl (Or.inl rfl) (Nat.zero_le _) (Nat.zero_le _) ⟨o, A, _, rfl, rfl, shM_refl hS⟩
                    · iterate 4 (refine zv_step (bX7_copy 2) rfl rfl trivial ?_)
                      refine zv_iale (bX7_copy 2) rfl rfl (show vp_in (nI t) 8 from vp_in_nI (by omega) (by decide)) (show A 12 (nI t).toNatClampNeg = nI l by rw [nI_clamp (by omega)]; exact el) ?_
                      iterate 3 (refine zv_step (bX7_copy 2) rfl rfl trivial ?_)
                      refine zv_ifb (fun h103 => ?_) (fun h103 => ?_)
                      · obtain ⟨a, n, rfl, rfl, ha⟩ := span_ab hm h71 h67 (Int32.not_lt.mp h89)
                        obtain ⟨b, n2, rfl, e9, hb⟩ := span_ab hl h76 h67 h103
                        have hb2 : b + n ≤ 60 := by
                          have : n = n2 := (nI_eq (by omega) (by omega)).mp e9
                          omega
                        iterate 2 (refine zv_step (bX7_copy 2) rfl rfl trivial ?_)
                        refine zv_world (show _ = wR f o (updA A 15 (A 15)) J from rfl) ?_
                        exact copyL1 f o A J (by omega) (by omega) ha hb2 (fun g g' => ⟨o, _, _, rfl, rfl, fun _ _ => rfl, fun r a b => by rw [updA_ne _ _ (by omega), updA_ne _ _ (by omega)], hS⟩) n 0 (A 15) (by omega) rfl
                      · iterate 1 (refine zv_step (bX7_copy 2) rfl rfl trivial ?_)
                        exact zv_iret (bX7_copy 2) rfl (Or.inl rfl) (Nat.zero_le _) (Nat.zero_le _) ⟨o, A, _, rfl, rfl, shM_refl hS⟩
            · iterate 1 (refine zv_step (bX7_copy 2) rfl rfl trivial ?_)
              exact zv_iret (bX7_copy 2) rfl (Or.inl rfl) (Nat.zero_le _) (Nat.zero_le _) ⟨o, A, _, rfl, rfl, shM_refl hS⟩
        · iterate 1 (refine zv_step (bX7_copy 2) rfl rfl trivial ?_)
          exact zv_iret (bX7_copy 2) rfl (Or.inl rfl) (Nat.zero_le _) (Nat.zero_le _) ⟨o, A, _, rfl, rfl, shM_refl hS⟩
    · skip
      iterate 1 (refine zv_step (bX7_copy 2) rfl rfl trivial ?_)
      refine zv_iff (by decide) ?_
      iterate 1 (refine zv_step (bX7_copy 2) rfl rfl trivial ?_)
      exact zv_iret (bX7_copy 2) rfl (Or.inl rfl) (Nat.zero_le _) (Nat.zero_le _) ⟨o, A, _, rfl, rfl, shM_refl hS⟩
  · skip
    iterate 1 (refine zv_step (bX7_copy 2) rfl rfl trivial ?_)
    refine zv_ift (by decide) ?_
    iterate 1 (refine zv_step (bX7_copy 2) rfl rfl trivial ?_)
    exact zv_iret (bX7_copy 2) rfl (Or.inl rfl) (Nat.zero_le _) (Nat.zero_le _) ⟨o, A, _, rfl, rfl, shM_refl hS⟩
set_option maxHeartbeats 1000000 in
set_option maxRecDepth 20000 in
theorem mHeld (f : Nat → zC) (o : Nat → Int32) (A : Nat → Nat → Int32) (J : Nat → Nat → Int64) (d : Int32) : zK 2 zX7_held [.ref 76, .int d] (wR f o A J) (fun r w' => w' = (wR f o A J) ∧ ∃ v : Int32, r = some (.int v) ∧ (v = 0 → ∃ s : Nat, s < 8 ∧ d = nI s)) := by
  refine zK_of qX7_held (by decide +kernel) rfl ?_
  iterate 1 (refine zv_step (bX7_held 2) rfl rfl trivial ?_)
  refine zv_S1 (bX7_held 2) rfl rfl rfl rfl ⟨rfl, rfl, rfl⟩ ⟨by decide, by decide⟩ ⟨Nat.zero_le _, Nat.zero_le _⟩ (hX7_isShelf _ _) ?_
  rintro _ _ ⟨rfl, ⟨g1, rfl⟩ | ⟨g1, rfl⟩⟩
  · obtain ⟨s, hs, rfl⟩ := in_nat (b := 7) (by decide) g1
    iterate 1 (refine zv_step (bX7_held 2) rfl rfl trivial ?_)
    refine zv_ift (by decide) ?_
    iterate 3 (refine zv_step (bX7_held 2) rfl rfl trivial ?_)
    refine zv_step (bX7_held 2) rfl rfl (show vp_in (nI s) 8 from vp_in_nI (by omega) (by decide)) ?_
    iterate 1 (refine zv_step (bX7_held 2) rfl rfl trivial ?_)
    refine zv_ifb (fun h17 => ?_) (fun h17 => ?_)
    · iterate 3 (refine zv_step (bX7_held 2) rfl rfl trivial ?_)
      refine zv_step (bX7_held 2) rfl rfl (show vp_in (nI s) 8 from vp_in_nI (by omega) (by decide)) ?_
      iterate 2 (refine zv_step (bX7_held 2) rfl rfl trivial ?_)
      refine zv_ifb (fun h32 => ?_) (fun h32 => ?_)
      · iterate 1 (refine zv_step (bX7_held 2) rfl rfl trivial ?_)
        exact zv_iret (bX7_held 2) rfl (Or.inl rfl) (Nat.zero_le _) (Nat.zero_le _) ⟨rfl, _, rfl, fun _ => ⟨s, by omega, rfl⟩⟩
      · iterate 2 (refine zv_step (bX7_held 2) rfl rfl trivial ?_)
        exact zv_iret (bX7_held 2) rfl (Or.inl rfl) (Nat.zero_le _) (Nat.zero_le _) ⟨rfl, _, rfl, fun h => absurd h (by decide)⟩
    · iterate 2 (refine zv_step (bX7_held 2) rfl rfl trivial ?_)
      exact zv_iret (bX7_held 2) rfl (Or.inl rfl) (Nat.zero_le _) (Nat.zero_le _) ⟨rfl, _, rfl, fun h => absurd h (by decide)⟩
  · skip
    iterate 1 (refine zv_step (bX7_held 2) rfl rfl trivial ?_)
    refine zv_iff (by decide) ?_
    iterate 2 (refine zv_step (bX7_held 2) rfl rfl trivial ?_)
    exact zv_iret (bX7_held 2) rfl (Or.inl rfl) (Nat.zero_le _) (Nat.zero_le _) ⟨rfl, _, rfl, fun h => absurd h (by decide)⟩
set_option maxHeartbeats 1000000 in
set_option maxRecDepth 20000 in
theorem mToss (f : Nat → zC) (o : Nat → Int32) (A : Nat → Nat → Int32) (J : Nat → Nat → Int64) (d : Int32) : zK 3 zX7_toss [.ref 76, .int d] (wR f o A J) (fun r w' => w' = (wR f o A J) ∧ ∃ v : Int32, r = some (.int v)) := by
  refine zK_of qX7_toss (by decide +kernel) rfl ?_
  iterate 2 (refine zv_step (bX7_toss 3) rfl rfl trivial ?_)
  refine zv_V1 (bX7_toss 3) rfl rfl rfl rfl rfl rfl rfl ⟨rfl, rfl, rfl⟩ ⟨by decide, by decide⟩ ⟨Nat.zero_le _, Nat.zero_le _⟩ (mHeld f o A J _) ?_
  rintro _ _ ⟨rfl, v, rfl, hv⟩
  iterate 3 (refine zv_step (bX7_toss 3) rfl rfl trivial ?_)
  refine zv_ifb (fun h7 => ?_) (fun h7 => ?_)
  · obtain ⟨s, hs, rfl⟩ := hv h7
    iterate 3 (refine zv_step (bX7_toss 3) rfl rfl trivial ?_)
    refine zv_step (bX7_toss 3) rfl rfl (show vp_in (nI s) 8 from vp_in_nI (by omega) (by decide)) ?_
    iterate 1 (refine zv_step (bX7_toss 3) rfl rfl trivial ?_)
    refine zv_ifb (fun h20 => ?_) (fun h20 => ?_)
    · iterate 3 (refine zv_step (bX7_toss 3) rfl rfl trivial ?_)
      refine zv_step (bX7_toss 3) rfl rfl (show vp_in (nI s) 8 from vp_in_nI (by omega) (by decide)) ?_
      exact zv_iret (bX7_toss 3) rfl (Or.inl rfl) (Nat.zero_le _) (Nat.zero_le _) ⟨rfl, _, rfl⟩
    · iterate 2 (refine zv_step (bX7_toss 3) rfl rfl trivial ?_)
      exact zv_iret (bX7_toss 3) rfl (Or.inl rfl) (Nat.zero_le _) (Nat.zero_le _) ⟨rfl, _, rfl⟩
  · iterate 2 (refine zv_step (bX7_toss 3) rfl rfl trivial ?_)
    exact zv_iret (bX7_toss 3) rfl (Or.inl rfl) (Nat.zero_le _) (Nat.zero_le _) ⟨rfl, _, rfl⟩
set_option maxHeartbeats 1000000 in
set_option maxRecDepth 20000 in
theorem mWeightT (f : Nat → zC) (o : Nat → Int32) (A : Nat → Nat → Int32) (J : Nat → Nat → Int64) {s : Nat} (hs : s < 8) (a v : Int32) {n0 : Nat} : zV (zMo 3 zX7_weight) false n0 0 0 28 [(3, .int a), (2, .int v), (0, .ref 76), (1, .int (nI s))] [.int (A 10 s)] (wR f o A J) (fun r w' => w' = (wR f o A J) ∧ ∃ v : Int32, r = some (.int v)) := by
  by_cases hd : (A 10 s).toInt < 1 ∨ 9 < (A 10 s).toInt
  · refine zv_step (bX7_weight 3) rfl rfl (by decide) ?_
    rw [if_pos hd]
    iterate 1 (refine zv_step (bX7_weight 3) rfl rfl trivial ?_)
    exact zv_iret (bX7_weight 3) rfl (Or.inl rfl) (Nat.zero_le _) (Nat.zero_le _) ⟨rfl, _, rfl⟩
  · obtain ⟨c, hc, e⟩ : ∃ c : Nat, c < 9 ∧ A 10 s = nI (c + 1) := by
      refine ⟨(A 10 s).toInt.toNat - 1, by omega, ?_⟩
      rw [← Int32.toInt_inj, nI_toInt (by omega)]
      omega
    rw [e]
    match c, hc with
    | 0, _ =>
      refine zv_step (bX7_weight 3) rfl rfl (by decide) ?_
      iterate 4 (refine zv_step (bX7_weight 3) rfl rfl trivial ?_)
      refine zv_step (bX7_weight 3) rfl rfl (show vp_in (nI s) 8 from vp_in_nI (by omega) (by decide)) ?_
      iterate 1 (refine zv_step (bX7_weight 3) rfl rfl trivial ?_)
      exact zv_iret (bX7_weight 3) rfl (Or.inl rfl) (Nat.zero_le _) (Nat.zero_le _) ⟨rfl, _, rfl⟩
    | 1, _ =>
      refine zv_step (bX7_weight 3) rfl rfl (by decide) ?_
      iterate 1 (refine zv_step (bX7_weight 3) rfl rfl trivial ?_)
      exact zv_iret (bX7_weight 3) rfl (Or.inl rfl) (Nat.zero_le _) (Nat.zero_le _) ⟨rfl, _, rfl⟩
    | 2, _ =>
      refine zv_step (bX7_weight 3) rfl rfl (by decide) ?_
      iterate 1 (refine zv_step (bX7_weight 3) rfl rfl trivial ?_)
      exact zv_iret (bX7_weight 3) rfl (Or.inl rfl) (Nat.zero_le _) (Nat.zero_le _) ⟨rfl, _, rfl⟩
    | 3, _ =>
      refine zv_step (bX7_weight 3) rfl rfl (by decide) ?_
      iterate 1 (refine zv_step (bX7_weight 3) rfl rfl trivial ?_)
      exact zv_iret (bX7_weight 3) rfl (Or.inl rfl) (Nat.zero_le _) (Nat.zero_le _) ⟨rfl, _, rfl⟩
    | 4, _ =>
      refine zv_step (bX7_weight 3) rfl rfl (by decide) ?_
      iterate 3 (refine zv_step (bX7_weight 3) rfl rfl trivial ?_)
      exact zv_iret (bX7_weight 3) rfl (Or.inl rfl) (Nat.zero_le _) (Nat.zero_le _) ⟨rfl, _, rfl⟩
    | 5, _ =>
      refine zv_step (bX7_weight 3) rfl rfl (by decide) ?_
      iterate 3 (refine zv_step (bX7_weight 3) rfl rfl trivial ?_)
      exact zv_iret (bX7_weight 3) rfl (Or.inl rfl) (Nat.zero_le _) (Nat.zero_le _) ⟨rfl, _, rfl⟩
    | 6, _ =>
      refine zv_step (bX7_weight 3) rfl rfl (by decide) ?_
      iterate 1 (refine zv_step (bX7_weight 3) rfl rfl trivial ?_)
      exact zv_iret (bX7_weight 3) rfl (Or.inl rfl) (Nat.zero_le _) (Nat.zero_le _) ⟨rfl, _, rfl⟩
    | 7, _ =>
      refine zv_step (bX7_weight 3) rfl rfl (by decide) ?_
      iterate 3 (refine zv_step (bX7_weight 3) rfl rfl trivial ?_)
      exact zv_iret (bX7_weight 3) rfl (Or.inl rfl) (Nat.zero_le _) (Nat.zero_le _) ⟨rfl, _, rfl⟩
    | 8, _ =>
      refine zv_step (bX7_weight 3) rfl rfl (by decide) ?_
      iterate 3 (refine zv_step (bX7_weight 3) rfl rfl trivial ?_)
      exact zv_iret (bX7_weight 3) rfl (Or.inl rfl) (Nat.zero_le _) (Nat.zero_le _) ⟨rfl, _, rfl⟩
    | c + 9, h => exact absurd h (by omega)
set_option maxHeartbeats 1000000 in
set_option maxRecDepth 20000 in
theorem mWeight (f : Nat → zC) (o : Nat → Int32) (A : Nat → Nat → Int32) (J : Nat → Nat → Int64) (d : Int32) : zK 3 zX7_weight [.ref 76, .int d] (wR f o A J) (fun r w' => w' = (wR f o A J) ∧ ∃ v : Int32, r = some (.int v)) := by
  refine zK_of qX7_weight (by decide +kernel) rfl ?_
  iterate 2 (refine zv_step (bX7_weight 3) rfl rfl trivial ?_)
  refine zv_V1 (bX7_weight 3) rfl rfl rfl rfl rfl rfl rfl ⟨rfl, rfl, rfl⟩ ⟨by decide, by decide⟩ ⟨Nat.zero_le _, Nat.zero_le _⟩ (mHeld f o A J _) ?_
  rintro _ _ ⟨rfl, v, rfl, hv⟩
  iterate 3 (refine zv_step (bX7_weight 3) rfl rfl trivial ?_)
  refine zv_ifb (fun h7 => ?_) (fun h7 => ?_)
  · obtain ⟨s, hs, rfl⟩ := hv h7
    iterate 3 (refine zv_step (bX7_weight 3) rfl rfl trivial ?_)
    refine zv_step (bX7_weight 3) rfl rfl (show vp_in (nI s) 8 from vp_in_nI (by omega) (by decide)) ?_
    iterate 6 (refine zv_step (bX7_weight 3) rfl rfl trivial ?_)
    refine zv_iale (bX7_weight 3) rfl rfl (show vp_in (nI s) 8 from vp_in_nI (by omega) (by decide)) (show A 10 (nI s).toNatClampNeg = A 10 s by rw [nI_clamp (by omega)]) ?_
    exact mWeightT f o A J hs _ _
  · iterate 1 (refine zv_step (bX7_weight 3) rfl rfl trivial ?_)
    exact zv_iret (bX7_weight 3) rfl (Or.inl rfl) (Nat.zero_le _) (Nat.zero_le _) ⟨rfl, _, rfl⟩
end
section
/-- a table of NODES: KIND, v, x, y (places in the table), SIZE -/
abbrev zNd : Type := Nat × Int32 × Nat × Nat × Nat
def repT (b : Nat) (T : List zNd) (A : Nat → Nat → Int32) : Prop := ∀ (a k : Nat) (v : Int32) (x y z : Nat), T[a]? = some (k, v, x, y, z) →
  A 0 (b + a) = nI k ∧ A 1 (b + a) = v ∧ (2 ≤ k → A 2 (b + a) = nI (b + x)) ∧ (2 ≤ k → k ≤ 6 → A 3 (b + a) = nI (b + y)) ∧ A 4 (b + a) = nI z
theorem e120 : c8 120 = nI 120 := by decide +kernel
set_option maxHeartbeats 1000000 in
set_option maxRecDepth 20000 in
theorem mAdds (f : Nat → zC) (o : Nat → Int32) (A : Nat → Nat → Int32) (J : Nat → Nat → Int64) {n : Nat} {k v x y : Int32} (ho : o 23 = nI n) (hn : 120 + n < 450) (hx : 0 ≤ x → vp_in x 450) (hy : 0 ≤ y → vp_in y 450) : zK 1 zX7_adds [.ref 76, .int k, .int v, .int x, .int y] (wR f o A J) (fun r w' => r = none ∧ w' = wR f (upd o 23 (nI (n + 1))) (setsA A (120 + n) k v x y) J) := by
  have e1 : c8 120 + o 23 = nI (120 + n) := by rw [ho, e120, nI_add]
  have e2 : (c8 120 + o 23).toNatClampNeg = 120 + n := by rw [e1]; exact nI_clamp (by omega)
  have e3 : o 23 + Int32.ofInt 1 = nI (n + 1) := by rw [ho]; exact nI_1 n
  refine zK_of qX7_adds (by decide +kernel) rfl ?_
  iterate 9 (refine zv_step (bX7_adds 1) rfl rfl trivial ?_)
  refine zv_V5 (bX7_adds 1) rfl rfl rfl rfl rfl rfl rfl ⟨rfl, rfl, rfl⟩ ⟨by decide, by decide⟩ ⟨Nat.zero_le _, Nat.zero_le _⟩ (mSets f o A J (n := c8 120 + o 23) (by rw [e1]; exact vp_in_nI hn (by decide)) hx hy) ?_
  rintro _ _ ⟨rfl, rfl⟩
  iterate 6 (refine zv_step (bX7_adds 1) rfl rfl trivial ?_)
  refine zv_ret (bX7_adds 1) rfl rfl (Nat.zero_le _) (Nat.zero_le _) ⟨rfl, ?_⟩
  show wR f (upd o 23 (o 23 + Int32.ofInt 1)) (setsA A (c8 120 + o 23).toNatClampNeg k v x y) J = _
  rw [e2, e3]
def szT (t : List zNd) (a : Nat) : Nat := match t[a]? with
  | some e => e.2.2.2.2
  | none => 0
theorem szT_app {t l : List zNd} {a : Nat} (h : a < t.length) : szT (t ++ l) a = szT t a := by
  unfold szT
  rw [List.getElem?_append_left h]
theorem szT_last {t : List zNd} {e : zNd} : szT (t ++ [e]) t.length = e.2.2.2.2 := by
  unfold szT
  rw [List.getElem?_append_right (Nat.le_refl _), Nat.sub_self]
  rfl
/-- the rest of what the small trees owe -/
def gE (A0 A : Nat → Nat → Int32) (m : Nat) : Prop := tbI 120 (120 + m) A ∧ (∀ r i, i < 120 → A r i = A0 r i) ∧ (∀ n, 120 ≤ n → n < 120 + m → A 0 n = nI 1 → A 1 n = nI 1)
def gI (A0 : Nat → Nat → Int32) (t : List zNd) (A : Nat → Nat → Int32) (m : Nat) : Prop := m = t.length ∧ repT 120 t A ∧ (∀ a, szT t a < 1000) ∧ (∀ i, 6 ≤ i → A i = A0 i) ∧ gE A0 A m
theorem gI_sz {A0 A : Nat → Nat → Int32} {t : List zNd} {m a : Nat} (h : gI A0 t A m) (ha : a < t.length) : A 4 (120 + a) = nI (szT t a) := by
  obtain ⟨⟨k, v, x, y, z⟩, he⟩ : ∃ e, t[a]? = some e := ⟨t[a], List.getElem?_eq_getElem ha⟩
  rw [(h.2.1 a k v x y z he).2.2.2.2]
  unfold szT
  rw [he]
theorem gI_snoc {A0 A : Nat → Nat → Int32} {t : List zNd} {m : Nat} (h : gI A0 t A m) {k : Nat} {v x y : Int32} {xi yi z : Nat} (hx : 2 ≤ k → x = nI (120 + xi)) (hy : 2 ≤ k → k ≤ 6 → y = nI (120 + yi)) (hz : Int32.ofInt 1 + rdv (A 4) x + rdv (A 4) y = nI z) (hz9 : z < 1000) (hn : 120 + m < 450) (hk : k < 10) (hs : (k < 2 ∧ x = m2 ∧ y = m2) ∨ (2 ≤ k ∧ k ≤ 6 ∧ ∃ a b : Nat, x = nI a ∧ 120 ≤ a ∧ a < 120 + m ∧ y = nI b ∧ 120 ≤ b ∧ b < 120 + m ∧ 1 + szN A a + szN A b ≤ 40) ∨ (7 ≤ k ∧ ∃ a : Nat, x = nI a ∧ 120 ≤ a ∧ a < 120 + m ∧ y = m2 ∧ 1 + szN A a ≤ 40)) (hv : (k = 0 ∨ k = 9 → ∃ w : Nat, w ≤ 9 ∧ v = nI w) ∧ (k = 1 → ∃ w : Nat, w ≤ 9999 ∧ v = nI w) ∧ (2 ≤ k → k ≤ 8 → v = m2)) (hv1 : k = 1 → v = nI 1) : gI A0 (t ++ [(k, v, xi, yi, z)]) (setsA A (120 + m) (nI k) v x y) (m + 1) := by
  obtain ⟨rfl, hT, hb, hA, hE1, hE2, hE3⟩ := h
  refine ⟨by simp, ?_, fun a => ?_, fun i hi => ?_, tbI_sets hE1 (by omega) hn hk hs hv, fun r i hi => (setsA_o (by omega)).trans (hE2 r i hi), fun n h1 h2 => ?_⟩
  · intro a k' v' x' y' z' he
    show upd (A 0) (120 + t.length) (nI k) (120 + a) = nI k' ∧ upd (A 1) (120 + t.length) v (120 + a) = v' ∧ (2 ≤ k' → upd (A 2) (120 + t.length) x (120 + a) = nI (120 + x')) ∧ (2 ≤ k' → k' ≤ 6 → upd (A 3) (120 + t.length) y (120 + a) = nI (120 + y')) ∧ upd (A 4) (120 + t.length) (Int32.ofInt 1 + rdv (A 4) x + rdv (A 4) y) (120 + a) = nI z'
    by_cases ha : a < t.length
    · rw [List.getElem?_append_left ha] at he
      obtain ⟨r0, r1, r2, r3, r4⟩ := hT a k' v' x' y' z' he
      have ne : ¬ 120 + a = 120 + t.length := by omega
      unfold upd
      rw [if_neg ne, if_neg ne, if_neg ne, if_neg ne, if_neg ne]
      exact ⟨r0, r1, r2, r3, r4⟩
    · have hlt : a < (t ++ [(k, v, xi, yi, z)]).length := (List.getElem?_eq_some_iff.mp he).1
      rw [List.length_append, List.length_singleton] at hlt
      have e : a = t.length := by omega
      subst e
      rw [List.getElem?_append_right (Nat.le_refl _), Nat.sub_self] at he
      have he' : (k, v, xi, yi, z) = (k', v', x', y', z') := Option.some.inj he
      cases he'
      rw [upd_self, upd_self, upd_self, upd_self, upd_self]
      exact ⟨rfl, rfl, hx, hy, hz⟩
  · by_cases ha : a < t.length
    · rw [szT_app ha]; exact hb a
    · by_cases e : a = t.length
      · subst e; rw [szT_last]; exact hz9
      · unfold szT
        rw [List.getElem?_eq_none (by rw [List.length_append, List.length_singleton]; omega)]
        decide
  · show (if i = 5 then _ else if i = 4 then _ else if i = 3 then _ else if i = 2 then _ else if i = 1 then _ else if i = 0 then _ else A i) = A0 i
    rw [if_neg (by omega), if_neg (by omega), if_neg (by omega), if_neg (by omega), if_neg (by omega), if_neg (by omega)]
    exact hA i hi
  · by_cases e : n = 120 + t.length
    · subst e
      show upd (A 0) (120 + t.length) (nI k) (120 + t.length) = nI 1 → upd (A 1) (120 + t.length) v (120 + t.length) = nI 1
      rw [upd_self, upd_self]
      intro q
      exact hv1 ((nI_eq (by omega) (by decide)).mp q)
    · rw [setsA_o e, setsA_o e]
      exact hE3 n h1 (by omega)
theorem gI_szN {A0 A : Nat → Nat → Int32} {t : List zNd} {m a : Nat} (h : gI A0 t A m) (ha : a < t.length) : szN A (120 + a) = szT t a := by
  have hb := h.2.2.1 a
  unfold szN
  rw [gI_sz h ha, nI_clamp (by omega)]
def gPk (x y : Nat) : Nat → Nat → List zNd → List zNd
  | 0, _, t => t
  | c + 1, k, t => gPk x y c (k + 1) (t ++ [(k, c8 (-2), x, y, 1 + szT t x + szT t y)])
def gY (n x : Nat) : Nat → Nat → List zNd → List zNd
  | 0, _, t => t
  | c + 1, y, t => gY n x c (y + 1) (if szT t x + szT t y = n - 1 then gPk x y 5 2 t else t)
def gU (x : Nat) (t : List zNd) : List zNd := t ++ [(7, c8 (-2), x, 0, 1 + szT t x), (8, c8 (-2), x, 0, 1 + szT t x), (9, c8 9, x, 0, 1 + szT t x)]
def gX (n th : Nat) : Nat → Nat → List zNd → List zNd
  | 0, _, t => t
  | c + 1, x, t => gX n th c (x + 1) (gY n x th 0 (if szT t x = n - 1 then gU x t else t))
def grow (n : Nat) (t : List zNd) : List zNd := gX n t.length t.length 0 t
theorem gPk_len (x y : Nat) : ∀ (c k : Nat) (t : List zNd), t.length ≤ (gPk x y c k t).length
  | 0, _, t => Nat.le_refl _
  | c + 1, k, t => Nat.le_trans (by rw [List.length_append]; exact Nat.le_add_right _ _) (gPk_len x y c (k + 1) _)
theorem gY_len (n x : Nat) : ∀ (c y : Nat) (t : List zNd), t.length ≤ (gY n x c y t).length
  | 0, _, t => Nat.le_refl _
  | c + 1, y, t => by
    refine Nat.le_trans ?_ (gY_len n x c (y + 1) _)
    split
    · exact gPk_len x y 5 2 t
    · exact Nat.le_refl _
theorem gX_len (n th : Nat) : ∀ (c x : Nat) (t : List zNd), t.length ≤ (gX n th c x t).length
  | 0, _, t => Nat.le_refl _
  | c + 1, x, t => by
    refine Nat.le_trans ?_ (gX_len n th c (x + 1) _)
    refine Nat.le_trans ?_ (gY_len n x th 0 _)
    split
    · unfold gU; rw [List.length_append]; exact Nat.le_add_right _ _
    · exact Nat.le_refl _
theorem sz_eq {a b n : Nat} (ha : a < 1000) (hb : b < 1000) (hn : n < 10) (h1 : 1 ≤ n) : nI a + nI b = nI n - Int32.ofInt 1 ↔ a + b = n - 1 := by
  rw [nI_add, show nI n - Int32.ofInt 1 = nI (n - 1) by obtain ⟨k, rfl⟩ : ∃ k, n = k + 1 := ⟨n - 1, by omega⟩; exact nI_pred k]
  exact nI_eq (by omega) (by omega)
theorem sz_eq1 {a n : Nat} (ha : a < 1000) (hn : n < 10) (h1 : 1 ≤ n) : nI a = nI n - Int32.ofInt 1 ↔ a = n - 1 := by
  rw [show nI n - Int32.ofInt 1 = nI (n - 1) by obtain ⟨k, rfl⟩ : ∃ k, n = k + 1 := ⟨n - 1, by omega⟩; exact nI_pred k]
  exact nI_eq (by omega) (by omega)
theorem e6 : c8 6 = nI 6 := by decide +kernel
set_option maxHeartbeats 1000000 in
set_option maxRecDepth 20000 in
theorem kLoop (f : Nat → zC) (o : Nat → Int32) (A0 : Nat → Nat → Int32) (J : Nat → Nat → Int64) (n th : Nat) (hn : n < 10) (h1 : 1 ≤ n) {Q : Option Value → zW → Prop} {n0 : Nat} {x y : Nat} : ∀ (c k : Nat), k + c = 7 → ∀ {x5 : Int32} {t : List zNd} {A : Nat → Nat → Int32} {m : Nat}, x5 = nI k → gI A0 t A m → x < t.length → y < t.length → szT t x + szT t y = n - 1 → 2 ≤ k → (gPk x y c k t).length ≤ 280 → (∀ (A' : Nat → Nat → Int32) (m' : Nat), gI A0 (gPk x y c k t) A' m' → zV (zMo 2 zX7_grows) false n0 0 0 121 [(4, .int (nI (120 + y))), (3, .int (nI (120 + x))), (2, .int (nI th)), (0, .ref 76), (1, .int (nI n))] [] (wR f (upd o 23 (nI m')) A' J) Q) → zV (zMo 2 zX7_grows) false n0 0 0 77 [(5, .int x5), (4, .int (nI (120 + y))), (3, .int (nI (120 + x))), (2, .int (nI th)), (0, .ref 76), (1, .int (nI n))] [] (wR f (upd o 23 (nI m)) A J) Q := by
  intro c
  induction c with
  | zero =>
    intro k hk x5 t A m e5 hI hx hy hE h2 hl kk
    iterate 3 (refine zv_step (bX7_grows 2) rfl rfl trivial ?_)
    refine zv_ift (by rw [e5]; show c8 6 < nI k; rw [e6]; exact nI_lt (by omega) (by omega)) ?_
    exact zv_locals (fun q hq => List.mem_cons_of_mem _ hq) (kk A m hI)
  | succ c ih =>
    intro k hk x5 t A m e5 hI hx hy hE h2 hl kk
    have hml : m = t.length := hI.1
    have hle := gPk_len x y c (k + 1) (t ++ [(k, c8 (-2), x, y, 1 + szT t x + szT t y)])
    have hl' : (gPk x y c (k + 1) (t ++ [(k, c8 (-2), x, y, 1 + szT t x + szT t y)])).length ≤ 280 := hl
    rw [List.length_append, List.length_singleton] at hle
    have b1 := hI.2.2.1 x
    have b2 := hI.2.2.1 y
    iterate 3 (refine zv_step (bX7_grows 2) rfl rfl trivial ?_)
    refine zv_iff (by rw [e5]; show ¬ c8 6 < nI k; rw [e6]; exact nI_nlt (by omega) (by omega)) ?_
    iterate 3 (refine zv_step (bX7_grows 2) rfl rfl trivial ?_)
    refine zv_iale (bX7_grows 2) rfl rfl (vp_in_nI (n := 120 + x) (by omega) (by decide)) (show A 4 (nI (120 + x)).toNatClampNeg = nI (szT t x) by rw [nI_clamp (by omega)]; exact gI_sz hI hx) ?_
    iterate 3 (refine zv_step (bX7_grows 2) rfl rfl trivial ?_)
    refine zv_iale (bX7_grows 2) rfl rfl (vp_in_nI (n := 120 + y) (by omega) (by decide)) (show A 4 (nI (120 + y)).toNatClampNeg = nI (szT t y) by rw [nI_clamp (by omega)]; exact gI_sz hI hy) ?_
    iterate 5 (refine zv_step (bX7_grows 2) rfl rfl trivial ?_)
    refine zv_iff (by show ¬ ¬ nI (szT t x) + nI (szT t y) = nI n - Int32.ofInt 1; rw [sz_eq b1 b2 hn h1]; exact fun q => q hE) ?_
    iterate 5 (refine zv_step (bX7_grows 2) rfl rfl trivial ?_)
    refine zv_V4 (bX7_grows 2) rfl rfl rfl rfl rfl rfl rfl ⟨rfl, rfl, rfl⟩ ⟨by decide, by decide⟩ ⟨Nat.zero_le _, Nat.zero_le _⟩ (mAdds f (upd o 23 (nI m)) A J (n := m) rfl (by omega) (fun _ => vp_in_nI (by omega) (by decide)) (fun _ => vp_in_nI (by omega) (by decide))) ?_
    rintro _ _ ⟨rfl, rfl⟩
    iterate 2 (refine zv_step (bX7_grows 2) rfl rfl trivial ?_)
    refine ih (k + 1) (by omega) (by rw [e5]; exact nI_1 k) (t := t ++ [(k, c8 (-2), x, y, 1 + szT t x + szT t y)]) (A := setsA A (120 + m) x5 (c8 (-2)) (nI (120 + x)) (nI (120 + y))) (m := m + 1) ?_ (by rw [List.length_append]; omega) (by rw [List.length_append]; omega) (by rw [szT_app hx, szT_app hy]; exact hE) (by omega) hl' kk
    rw [e5]
    exact gI_snoc hI (fun _ => rfl) (fun _ _ => rfl) (by rw [rdv_nI (by omega), rdv_nI (by omega), gI_sz hI hx, gI_sz hI hy]; show nI 1 + nI (szT t x) + nI (szT t y) = _; rw [nI_add, nI_add]) (by omega) (by omega) (by omega) (Or.inr (Or.inl ⟨h2, by omega, 120 + x, 120 + y, rfl, by omega, by omega, rfl, by omega, by omega, by rw [gI_szN hI hx, gI_szN hI hy]; omega⟩)) ⟨fun h => absurd h (by omega), fun h => absurd h (by omega), fun _ _ => rfl⟩ (fun h => absurd h (by omega))
set_option maxHeartbeats 1000000 in
set_option maxRecDepth 20000 in
theorem yLoop (f : Nat → zC) (o : Nat → Int32) (A0 : Nat → Nat → Int32) (J : Nat → Nat → Int64) (n th : Nat) (hn : n < 10) (h1 : 1 ≤ n) {Q : Option Value → zW → Prop} {n0 : Nat} {x : Nat} : ∀ (c y : Nat), y + c = th → ∀ {x4 : Int32} {t : List zNd} {A : Nat → Nat → Int32} {m : Nat}, x4 = nI (120 + y) → gI A0 t A m → x < t.length → th ≤ t.length → (gY n x c y t).length ≤ 280 → (∀ (A' : Nat → Nat → Int32) (m' : Nat), gI A0 (gY n x c y t) A' m' → zV (zMo 2 zX7_grows) false n0 0 0 127 [(3, .int (nI (120 + x))), (2, .int (nI th)), (0, .ref 76), (1, .int (nI n))] [] (wR f (upd o 23 (nI m')) A' J) Q) → zV (zMo 2 zX7_grows) false n0 0 0 65 [(4, .int x4), (3, .int (nI (120 + x))), (2, .int (nI th)), (0, .ref 76), (1, .int (nI n))] [] (wR f (upd o 23 (nI m)) A J) Q := by
  intro c
  induction c with
  | zero =>
    intro y hy0 x4 t A m e4 hI hx hth hl kk
    iterate 5 (refine zv_step (bX7_grows 2) rfl rfl trivial ?_)
    refine zv_ift (by rw [e4]; show c8 120 + nI th ≤ nI (120 + y); rw [e120, nI_add]; have := hI.1; exact nI_le (by omega) (by have := (gY_len n x 0 y t); omega)) ?_
    exact zv_locals (fun q hq => List.mem_cons_of_mem _ hq) (kk A m hI)
  | succ c ih =>
    intro y hy0 x4 t A m e4 hI hx hth hl kk
    have hml : m = t.length := hI.1
    have hle0 := gY_len n x (c + 1) y t
    have hy : y < t.length := by omega
    have b1 := hI.2.2.1 x
    have b2 := hI.2.2.1 y
    subst e4
    iterate 5 (refine zv_step (bX7_grows 2) rfl rfl trivial ?_)
    refine zv_iff (by show ¬ c8 120 + nI th ≤ nI (120 + y); rw [e120, nI_add]; exact nI_ge (by omega) (by omega)) ?_
    iterate 2 (refine zv_step (bX7_grows 2) rfl rfl trivial ?_)
    by_cases hE : szT t x + szT t y = n - 1
    · have hg : gY n x (c + 1) y t = gY n x c (y + 1) (gPk x y 5 2 t) := by
        show gY n x c (y + 1) (if szT t x + szT t y = n - 1 then gPk x y 5 2 t else t) = _
        rw [if_pos hE]
      rw [hg] at hl kk
      have hle := gY_len n x c (y + 1) (gPk x y 5 2 t)
      have hle2 := gPk_len x y 5 2 t
      refine kLoop f o A0 J n th hn h1 (x := x) (y := y) 5 2 rfl rfl hI hx hy hE (by omega) (by omega) (fun A' m' hI' => ?_)
      iterate 2 (refine zv_step (bX7_grows 2) rfl rfl trivial ?_)
      exact ih (y + 1) (by omega) (nI_1 (120 + y)) hI' (by omega) (by omega) hl kk
    · have hg : gY n x (c + 1) y t = gY n x c (y + 1) t := by
        show gY n x c (y + 1) (if szT t x + szT t y = n - 1 then gPk x y 5 2 t else t) = _
        rw [if_neg hE]
      rw [hg] at hl kk
      have hle := gY_len n x c (y + 1) t
      iterate 3 (refine zv_step (bX7_grows 2) rfl rfl trivial ?_)
      refine zv_iff (by decide) ?_
      iterate 3 (refine zv_step (bX7_grows 2) rfl rfl trivial ?_)
      refine zv_iale (bX7_grows 2) rfl rfl (vp_in_nI (n := 120 + x) (by omega) (by decide)) (show A 4 (nI (120 + x)).toNatClampNeg = nI (szT t x) by rw [nI_clamp (by omega)]; exact gI_sz hI hx) ?_
      iterate 3 (refine zv_step (bX7_grows 2) rfl rfl trivial ?_)
      refine zv_iale (bX7_grows 2) rfl rfl (vp_in_nI (n := 120 + y) (by omega) (by decide)) (show A 4 (nI (120 + y)).toNatClampNeg = nI (szT t y) by rw [nI_clamp (by omega)]; exact gI_sz hI hy) ?_
      iterate 5 (refine zv_step (bX7_grows 2) rfl rfl trivial ?_)
      refine zv_ift (by show ¬ nI (szT t x) + nI (szT t y) = nI n - Int32.ofInt 1; rw [sz_eq b1 b2 hn h1]; exact hE) ?_
      iterate 2 (refine zv_step (bX7_grows 2) rfl rfl trivial ?_)
      exact zv_locals (l' := [(4, .int (nI (120 + y) + Int32.ofInt 1)), (3, .int (nI (120 + x))), (2, .int (nI th)), (0, .ref 76), (1, .int (nI n))]) (by simp [zset1, Value.category]) (ih (y + 1) (by omega) (nI_1 (120 + y)) hI hx hth hl kk)
set_option maxHeartbeats 1000000 in
set_option maxRecDepth 20000 in
theorem xLoop (f : Nat → zC) (o : Nat → Int32) (A0 : Nat → Nat → Int32) (J : Nat → Nat → Int64) (n th : Nat) (hn : n < 10) (h1 : 1 ≤ n) {Q : Option Value → zW → Prop} {n0 : Nat} : ∀ (c x : Nat), x + c = th → ∀ {x3 : Int32} {t : List zNd} {A : Nat → Nat → Int32} {m : Nat}, x3 = nI (120 + x) → gI A0 t A m → th ≤ t.length → (gX n th c x t).length ≤ 280 → (∀ (A' : Nat → Nat → Int32) (m' : Nat), gI A0 (gX n th c x t) A' m' → Q none (wR f (upd o 23 (nI m')) A' J)) → zV (zMo 2 zX7_grows) false n0 0 0 8 [(3, .int x3), (2, .int (nI th)), (0, .ref 76), (1, .int (nI n))] [] (wR f (upd o 23 (nI m)) A J) Q := by
  intro c
  induction c with
  | zero =>
    intro x hx0 x3 t A m e3 hI hth hl kk
    iterate 5 (refine zv_step (bX7_grows 2) rfl rfl trivial ?_)
    refine zv_ift (by rw [e3]; show c8 120 + nI th ≤ nI (120 + x); rw [e120, nI_add]; have := hI.1; exact nI_le (by omega) (by have := (gX_len n th 0 x t); omega)) ?_
    exact zv_ret (bX7_grows 2) rfl rfl (Nat.zero_le _) (Nat.zero_le _) (kk A m hI)
  | succ c ih =>
    intro x hx0 x3 t A m e3 hI hth hl kk
    have hml : m = t.length := hI.1
    have hle0 := gX_len n th (c + 1) x t
    have hx : x < t.length := by omega
    have b1 := hI.2.2.1 x
    subst e3
    iterate 5 (refine zv_step (bX7_grows 2) rfl rfl trivial ?_)
    refine zv_iff (by show ¬ c8 120 + nI th ≤ nI (120 + x); rw [e120, nI_add]; exact nI_ge (by omega) (by omega)) ?_
    iterate 3 (refine zv_step (bX7_grows 2) rfl rfl trivial ?_)
    refine zv_iale (bX7_grows 2) rfl rfl (vp_in_nI (n := 120 + x) (by omega) (by decide)) (show A 4 (nI (120 + x)).toNatClampNeg = nI (szT t x) by rw [nI_clamp (by omega)]; exact gI_sz hI hx) ?_
    iterate 4 (refine zv_step (bX7_grows 2) rfl rfl trivial ?_)
    by_cases hE : szT t x = n - 1
    · have hg : gX n th (c + 1) x t = gX n th c (x + 1) (gY n x th 0 (gU x t)) := by
        show gX n th c (x + 1) (gY n x th 0 (if szT t x = n - 1 then gU x t else t)) = _
        rw [if_pos hE]
      rw [hg] at hl kk
      have hle := gX_len n th c (x + 1) (gY n x th 0 (gU x t))
      have hle2 := gY_len n x th 0 (gU x t)
      have hgu : (gU x t).length = t.length + 3 := by unfold gU; rw [List.length_append]; rfl
      refine zv_iff (by show ¬ ¬ nI (szT t x) = nI n - Int32.ofInt 1; rw [sz_eq1 b1 hn h1]; exact fun q => q hE) ?_
      iterate 5 (refine zv_step (bX7_grows 2) rfl rfl trivial ?_)
      refine zv_V4 (bX7_grows 2) rfl rfl rfl rfl rfl rfl rfl ⟨rfl, rfl, rfl⟩ ⟨by decide, by decide⟩ ⟨Nat.zero_le _, Nat.zero_le _⟩ (mAdds f (upd o 23 (nI m)) A J (n := m) rfl (by omega) (fun _ => vp_in_nI (by omega) (by decide)) vpm2) ?_
      rintro _ _ ⟨rfl, rfl⟩
      have I1 : gI A0 (t ++ [(7, c8 (-2), x, 0, 1 + szT t x)]) (setsA A (120 + m) (c8 7) (c8 (-2)) (nI (120 + x)) (c8 (-2))) (m + 1) :=
        gI_snoc (k := 7) hI (fun _ => rfl) (fun _ h => absurd h (by decide)) (by rw [rdv_nI (by omega), rdv_m2, gI_sz hI hx]; show nI 1 + nI (szT t x) + nI 0 = _; rw [nI_add, nI_add, Nat.add_zero]) (by omega) (by omega) (by decide) (Or.inr (Or.inr ⟨by decide, 120 + x, rfl, by omega, by omega, rfl, by rw [gI_szN hI hx]; omega⟩)) ⟨fun h => absurd h (by decide), fun h => absurd h (by decide), fun _ _ => rfl⟩ (fun h => absurd h (by decide))
      have hx1 : x < (t ++ [(7, c8 (-2), x, 0, 1 + szT t x)] : List zNd).length := by rw [List.length_append]; omega
      have s1 : szT (t ++ [(7, c8 (-2), x, 0, 1 + szT t x)]) x = szT t x := szT_app hx
      iterate 5 (refine zv_step (bX7_grows 2) rfl rfl trivial ?_)
      refine zv_V4 (bX7_grows 2) rfl rfl rfl rfl rfl rfl rfl ⟨rfl, rfl, rfl⟩ ⟨by decide, by decide⟩ ⟨Nat.zero_le _, Nat.zero_le _⟩ (mAdds f (upd o 23 (nI (m + 1))) (setsA A (120 + m) (c8 7) (c8 (-2)) (nI (120 + x)) (c8 (-2))) J (n := m + 1) rfl (by omega) (fun _ => vp_in_nI (by omega) (by decide)) vpm2) ?_
      rintro _ _ ⟨rfl, rfl⟩
      have I2 := gI_snoc (k := 8) (v := c8 (-2)) (x := nI (120 + x)) (y := c8 (-2)) (xi := x) (yi := 0) (z := 1 + szT t x) I1 (fun _ => rfl) (fun _ h => absurd h (by decide)) (by rw [rdv_nI (by omega), rdv_m2, gI_sz I1 hx1, s1]; show nI 1 + nI (szT t x) + nI 0 = _; rw [nI_add, nI_add, Nat.add_zero]) (by omega) (by omega) (by decide) (Or.inr (Or.inr ⟨by decide, 120 + x, rfl, by omega, by omega, rfl, by rw [gI_szN I1 hx1, s1]; omega⟩)) ⟨fun h => absurd h (by decide), fun h => absurd h (by decide), fun _ _ => rfl⟩ (fun h => absurd h (by decide))
      have hx2 : x < (t ++ [(7, c8 (-2), x, 0, 1 + szT t x)] ++ [(8, c8 (-2), x, 0, 1 + szT t x)] : List zNd).length := by rw [List.length_append]; omega
      have s2 : szT (t ++ [(7, c8 (-2), x, 0, 1 + szT t x)] ++ [(8, c8 (-2), x, 0, 1 + szT t x)]) x = szT t x := (szT_app hx1).trans s1
      iterate 5 (refine zv_step (bX7_grows 2) rfl rfl trivial ?_)
      refine zv_V4 (bX7_grows 2) rfl rfl rfl rfl rfl rfl rfl ⟨rfl, rfl, rfl⟩ ⟨by decide, by decide⟩ ⟨Nat.zero_le _, Nat.zero_le _⟩ (mAdds f (upd o 23 (nI (m + 1 + 1))) (setsA (setsA A (120 + m) (c8 7) (c8 (-2)) (nI (120 + x)) (c8 (-2))) (120 + (m + 1)) (nI 8) (c8 (-2)) (nI (120 + x)) (c8 (-2))) J (n := m + 1 + 1) rfl (by omega) (fun _ => vp_in_nI (by omega) (by decide)) vpm2) ?_
      rintro _ _ ⟨rfl, rfl⟩
      have I3 := gI_snoc (k := 9) (v := c8 9) (x := nI (120 + x)) (y := c8 (-2)) (xi := x) (yi := 0) (z := 1 + szT t x) I2 (fun _ => rfl) (fun _ h => absurd h (by decide)) (by rw [rdv_nI (by omega), rdv_m2, gI_sz I2 hx2, s2]; show nI 1 + nI (szT t x) + nI 0 = _; rw [nI_add, nI_add, Nat.add_zero]) (by omega) (by omega) (by decide) (Or.inr (Or.inr ⟨by decide, 120 + x, rfl, by omega, by omega, rfl, by rw [gI_szN I2 hx2, s2]; omega⟩)) ⟨fun _ => ⟨9, by decide, rfl⟩, fun h => absurd h (by decide), fun _ h => absurd h (by decide)⟩ (fun h => absurd h (by decide))
      have eU : t ++ [(7, c8 (-2), x, 0, 1 + szT t x)] ++ [(8, c8 (-2), x, 0, 1 + szT t x)] ++ [(9, c8 9, x, 0, 1 + szT t x)] = gU x t := by
        unfold gU
        rw [List.append_assoc, List.append_assoc]
        rfl
      rw [eU] at I3
      iterate 2 (refine zv_step (bX7_grows 2) rfl rfl trivial ?_)
      refine yLoop f o A0 J n th hn h1 (x := x) th 0 (by omega) e120 I3 (by omega) (by omega) (by omega) (fun A' m' hI' => ?_)
      iterate 2 (refine zv_step (bX7_grows 2) rfl rfl trivial ?_)
      exact ih (x + 1) (by omega) (nI_1 (120 + x)) hI' (by omega) hl kk
    · have hg : gX n th (c + 1) x t = gX n th c (x + 1) (gY n x th 0 t) := by
        show gX n th c (x + 1) (gY n x th 0 (if szT t x = n - 1 then gU x t else t)) = _
        rw [if_neg hE]
      rw [hg] at hl kk
      have hle := gX_len n th c (x + 1) (gY n x th 0 t)
      have hle2 := gY_len n x th 0 t
      refine zv_ift (by show ¬ nI (szT t x) = nI n - Int32.ofInt 1; rw [sz_eq1 b1 hn h1]; exact hE) ?_
      iterate 2 (refine zv_step (bX7_grows 2) rfl rfl trivial ?_)
      refine yLoop f o A0 J n th hn h1 (x := x) th 0 (by omega) e120 hI (by omega) (by omega) (by omega) (fun A' m' hI' => ?_)
      iterate 2 (refine zv_step (bX7_grows 2) rfl rfl trivial ?_)
      exact ih (x + 1) (by omega) (nI_1 (120 + x)) hI' (by omega) hl kk
set_option maxHeartbeats 1000000 in
set_option maxRecDepth 20000 in
theorem mGrows (f : Nat → zC) (o : Nat → Int32) (A0 : Nat → Nat → Int32) (J : Nat → Nat → Int64) (n : Nat) (hn : n < 10) (h1 : 1 ≤ n) {t : List zNd} {A : Nat → Nat → Int32} {m : Nat} (hI : gI A0 t A m) (hl : (grow n t).length ≤ 280) : zK 2 zX7_grows [.ref 76, .int (nI n)] (wR f (upd o 23 (nI m)) A J) (fun r w' => r = none ∧ ∃ (A' : Nat → Nat → Int32) (m' : Nat), w' = wR f (upd o 23 (nI m')) A' J ∧ gI A0 (grow n t) A' m') := by
  obtain ⟨rfl, hI'⟩ : m = t.length ∧ gI A0 t A t.length := ⟨hI.1, hI.1 ▸ hI⟩
  refine zK_of qX7_grows (by decide +kernel) rfl ?_
  iterate 5 (refine zv_step (bX7_grows 2) rfl rfl trivial ?_)
  exact xLoop f o A0 J n t.length hn h1 t.length 0 (by omega) e120 hI' (Nat.le_refl _) hl (fun A' m' h => ⟨rfl, A', m', rfl, h⟩)
def T4 : List zNd := [(0, 0, 0, 0, 1), (1, 1, 0, 0, 1), (7, (-2), 0, 0, 2), (8, (-2), 0, 0, 2), (9, 9, 0, 0, 2), (7, (-2), 1, 0, 2), (8, (-2), 1, 0, 2), (9, 9, 1, 0, 2), (2, (-2), 0, 0, 3), (3, (-2), 0, 0, 3), (4, (-2), 0, 0, 3), (5, (-2), 0, 0, 3), (6, (-2), 0, 0, 3), (2, (-2), 0, 1, 3), (3, (-2), 0, 1, 3), (4, (-2), 0, 1, 3), (5, (-2), 0, 1, 3), (6, (-2), 0, 1, 3), (2, (-2), 1, 0, 3), (3, (-2), 1, 0, 3), (4, (-2), 1, 0, 3), (5, (-2), 1, 0, 3), (6, (-2), 1, 0, 3), (2, (-2), 1, 1, 3), (3, (-2), 1, 1, 3), (4, (-2), 1, 1, 3), (5, (-2), 1, 1, 3), (6, (-2), 1, 1, 3), (7, (-2), 2, 0, 3), (8, (-2), 2, 0, 3), (9, 9, 2, 0, 3), (7, (-2), 3, 0, 3), (8, (-2), 3, 0, 3), (9, 9, 3, 0, 3), (7, (-2), 4, 0, 3), (8, (-2), 4, 0, 3), (9, 9, 4, 0, 3), (7, (-2), 5, 0, 3), (8, (-2), 5, 0, 3), (9, 9, 5, 0, 3), (7, (-2), 6, 0, 3), (8, (-2), 6, 0, 3), (9, 9, 6, 0, 3), (7, (-2), 7, 0, 3), (8, (-2), 7, 0, 3), (9, 9, 7, 0, 3), (2, (-2), 0, 2, 4), (3, (-2), 0, 2, 4), (4, (-2), 0, 2, 4), (5, (-2), 0, 2, 4), (6, (-2), 0, 2, 4), (2, (-2), 0, 3, 4), (3, (-2), 0, 3, 4), (4, (-2), 0, 3, 4), (5, (-2), 0, 3, 4), (6, (-2), 0, 3, 4), (2, (-2), 0, 4, 4), (3, (-2), 0, 4, 4), (4, (-2), 0, 4, 4), (5, (-2), 0, 4, 4), (6, (-2), 0, 4, 4), (2, (-2), 0, 5, 4), (3, (-2), 0, 5, 4), (4, (-2), 0, 5, 4), (5, (-2), 0, 5, 4), (6, (-2), 0, 5, 4), (2, (-2), 0, 6, 4), (3, (-2), 0, 6, 4), (4, (-2), 0, 6, 4), (5, (-2), 0, 6, 4), (6, (-2), 0, 6, 4), (2, (-2), 0, 7, 4), (3, (-2), 0, 7, 4), (4, (-2), 0, 7, 4), (5, (-2), 0, 7, 4), (6, (-2), 0, 7, 4), (2, (-2), 1, 2, 4), (3, (-2), 1, 2, 4), (4, (-2), 1, 2, 4), (5, (-2), 1, 2, 4), (6, (-2), 1, 2, 4), (2, (-2), 1, 3, 4), (3, (-2), 1, 3, 4), (4, (-2), 1, 3, 4), (5, (-2), 1, 3, 4), (6, (-2), 1, 3, 4), (2, (-2), 1, 4, 4), (3, (-2), 1, 4, 4), (4, (-2), 1, 4, 4), (5, (-2), 1, 4, 4), (6, (-2), 1, 4, 4), (2, (-2), 1, 5, 4), (3, (-2), 1, 5, 4), (4, (-2), 1, 5, 4), (5, (-2), 1, 5, 4), (6, (-2), 1, 5, 4), (2, (-2), 1, 6, 4), (3, (-2), 1, 6, 4), (4, (-2), 1, 6, 4), (5, (-2), 1, 6, 4), (6, (-2), 1, 6, 4), (2, (-2), 1, 7, 4), (3, (-2), 1, 7, 4), (4, (-2), 1, 7, 4), (5, (-2), 1, 7, 4), (6, (-2), 1, 7, 4), (2, (-2), 2, 0, 4), (3, (-2), 2, 0, 4), (4, (-2), 2, 0, 4), (5, (-2), 2, 0, 4), (6, (-2), 2, 0, 4), (2, (-2), 2, 1, 4), (3, (-2), 2, 1, 4), (4, (-2), 2, 1, 4), (5, (-2), 2, 1, 4), (6, (-2), 2, 1, 4), (2, (-2), 3, 0, 4), (3, (-2), 3, 0, 4), (4, (-2), 3, 0, 4), (5, (-2), 3, 0, 4), (6, (-2), 3, 0, 4), (2, (-2), 3, 1, 4), (3, (-2), 3, 1, 4), (4, (-2), 3, 1, 4), (5, (-2), 3, 1, 4), (6, (-2), 3, 1, 4), (2, (-2), 4, 0, 4), (3, (-2), 4, 0, 4), (4, (-2), 4, 0, 4), (5, (-2), 4, 0, 4), (6, (-2), 4, 0, 4), (2, (-2), 4, 1, 4), (3, (-2), 4, 1, 4), (4, (-2), 4, 1, 4), (5, (-2), 4, 1, 4), (6, (-2), 4, 1, 4), (2, (-2), 5, 0, 4), (3, (-2), 5, 0, 4), (4, (-2), 5, 0, 4), (5, (-2), 5, 0, 4), (6, (-2), 5, 0, 4), (2, (-2), 5, 1, 4), (3, (-2), 5, 1, 4), (4, (-2), 5, 1, 4), (5, (-2), 5, 1, 4), (6, (-2), 5, 1, 4), (2, (-2), 6, 0, 4), (3, (-2), 6, 0, 4), (4, (-2), 6, 0, 4), (5, (-2), 6, 0, 4), (6, (-2), 6, 0, 4), (2, (-2), 6, 1, 4), (3, (-2), 6, 1, 4), (4, (-2), 6, 1, 4), (5, (-2), 6, 1, 4), (6, (-2), 6, 1, 4), (2, (-2), 7, 0, 4), (3, (-2), 7, 0, 4), (4, (-2), 7, 0, 4), (5, (-2), 7, 0, 4), (6, (-2), 7, 0, 4), (2, (-2), 7, 1, 4), (3, (-2), 7, 1, 4), (4, (-2), 7, 1, 4), (5, (-2), 7, 1, 4), (6, (-2), 7, 1, 4), (7, (-2), 8, 0, 4), (8, (-2), 8, 0, 4), (9, 9, 8, 0, 4), (7, (-2), 9, 0, 4), (8, (-2), 9, 0, 4), (9, 9, 9, 0, 4), (7, (-2), 10, 0, 4), (8, (-2), 10, 0, 4), (9, 9, 10, 0, 4), (7, (-2), 11, 0, 4), (8, (-2), 11, 0, 4), (9, 9, 11, 0, 4), (7, (-2), 12, 0, 4), (8, (-2), 12, 0, 4), (9, 9, 12, 0, 4), (7, (-2), 13, 0, 4), (8, (-2), 13, 0, 4), (9, 9, 13, 0, 4), (7, (-2), 14, 0, 4), (8, (-2), 14, 0, 4), (9, 9, 14, 0, 4), (7, (-2), 15, 0, 4), (8, (-2), 15, 0, 4), (9, 9, 15, 0, 4), (7, (-2), 16, 0, 4), (8, (-2), 16, 0, 4), (9, 9, 16, 0, 4), (7, (-2), 17, 0, 4), (8, (-2), 17, 0, 4), (9, 9, 17, 0, 4), (7, (-2), 18, 0, 4), (8, (-2), 18, 0, 4), (9, 9, 18, 0, 4), (7, (-2), 19, 0, 4), (8, (-2), 19, 0, 4), (9, 9, 19, 0, 4), (7, (-2), 20, 0, 4), (8, (-2), 20, 0, 4), (9, 9, 20, 0, 4), (7, (-2), 21, 0, 4), (8, (-2), 21, 0, 4), (9, 9, 21, 0, 4), (7, (-2), 22, 0, 4), (8, (-2), 22, 0, 4), (9, 9, 22, 0, 4), (7, (-2), 23, 0, 4), (8, (-2), 23, 0, 4), (9, 9, 23, 0, 4), (7, (-2), 24, 0, 4), (8, (-2), 24, 0, 4), (9, 9, 24, 0, 4), (7, (-2), 25, 0, 4), (8, (-2), 25, 0, 4), (9, 9, 25, 0, 4), (7, (-2), 26, 0, 4), (8, (-2), 26, 0, 4), (9, 9, 26, 0, 4), (7, (-2), 27, 0, 4), (8, (-2), 27, 0, 4), (9, 9, 27, 0, 4), (7, (-2), 28, 0, 4), (8, (-2), 28, 0, 4), (9, 9, 28, 0, 4), (7, (-2), 29, 0, 4), (8, (-2), 29, 0, 4), (9, 9, 29, 0, 4), (7, (-2), 30, 0, 4), (8, (-2), 30, 0, 4), (9, 9, 30, 0, 4), (7, (-2), 31, 0, 4), (8, (-2), 31, 0, 4), (9, 9, 31, 0, 4), (7, (-2), 32, 0, 4), (8, (-2), 32, 0, 4), (9, 9, 32, 0, 4), (7, (-2), 33, 0, 4), (8, (-2), 33, 0, 4), (9, 9, 33, 0, 4), (7, (-2), 34, 0, 4), (8, (-2), 34, 0, 4), (9, 9, 34, 0, 4), (7, (-2), 35, 0, 4), (8, (-2), 35, 0, 4), (9, 9, 35, 0, 4), (7, (-2), 36, 0, 4), (8, (-2), 36, 0, 4), (9, 9, 36, 0, 4), (7, (-2), 37, 0, 4), (8, (-2), 37, 0, 4), (9, 9, 37, 0, 4), (7, (-2), 38, 0, 4), (8, (-2), 38, 0, 4), (9, 9, 38, 0, 4), (7, (-2), 39, 0, 4), (8, (-2), 39, 0, 4), (9, 9, 39, 0, 4), (7, (-2), 40, 0, 4), (8, (-2), 40, 0, 4), (9, 9, 40, 0, 4), (7, (-2), 41, 0, 4), (8, (-2), 41, 0, 4), (9, 9, 41, 0, 4), (7, (-2), 42, 0, 4), (8, (-2), 42, 0, 4), (9, 9, 42, 0, 4), (7, (-2), 43, 0, 4), (8, (-2), 43, 0, 4), (9, 9, 43, 0, 4), (7, (-2), 44, 0, 4), (8, (-2), 44, 0, 4), (9, 9, 44, 0, 4), (7, (-2), 45, 0, 4), (8, (-2), 45, 0, 4), (9, 9, 45, 0, 4)]
def tabs : Nat → List zNd
  | 0 => [(0, Int32.ofInt 0, 0, 0, 1), (1, Int32.ofInt 1, 0, 0, 1)]
  | j + 1 => grow (j + 2) (tabs j)
def lnT (j : Nat) : Nat := [2, 8, 46, 280].getD j 0
set_option maxRecDepth 100000 in
theorem tab0 : tabs 0 = T4.take 2 := by decide +kernel
set_option maxRecDepth 100000 in
theorem tab1 : tabs 1 = T4.take 8 := by decide +kernel
set_option maxRecDepth 100000 in
theorem tab2 : tabs 2 = T4.take 46 := by decide +kernel
set_option maxRecDepth 100000 in
theorem tab3 : tabs 3 = T4.take 280 := by decide +kernel
theorem tabs_eq {j : Nat} (h : j < 4) : tabs j = T4.take (lnT j) := by
  match j, h with
  | 0, _ => exact tab0
  | 1, _ => exact tab1
  | 2, _ => exact tab2
  | 3, _ => exact tab3
theorem T4_len : T4.length = 280 := by decide +kernel
theorem tabs_len {j : Nat} (h : j < 4) : (tabs j).length = lnT j := by
  rw [tabs_eq h, List.length_take, T4_len]
  match j, h with
  | 0, _ => decide
  | 1, _ => decide
  | 2, _ => decide
  | 3, _ => decide
theorem lnT_le {j : Nat} (h : j < 4) : lnT j ≤ 280 := by
  match j, h with
  | 0, _ => decide
  | 1, _ => decide
  | 2, _ => decide
  | 3, _ => decide
theorem tabs_pre {j : Nat} (h : j < 4) {a : Nat} {e : zNd} (he : (tabs j)[a]? = some e) : T4[a]? = some e := by
  rw [tabs_eq h, List.getElem?_take] at he
  split at he
  · exact he
  · cases he
theorem T4_sz : ∀ e ∈ T4, e.2.2.2.2 ≤ 4 := by decide +kernel
theorem tabs_sz {j : Nat} (h : j < 4) (a : Nat) : szT (tabs j) a ≤ 4 := by
  unfold szT
  split
  · rename_i e he
    exact T4_sz _ (List.mem_of_getElem? (tabs_pre h he))
  · decide
end
