def rm3 (r : Int32) : Int32 := r - r / Int32.ofInt 3 * Int32.ofInt 3
noncomputable def foA (A : Nat → Nat → Int32) : Nat → Int32 → Nat × (Nat → Int32) × (Nat → Int32) → Nat × (Nat → Int32) × (Nat → Int32)
  | 0, _, s => s
  | c + 1, r, s => if r ≤ 0 then s else foA A c (r / Int32.ofInt 3) (sdA A (rm3 r - Int32.ofInt 1) s)
noncomputable def ptA (A : Nat → Nat → Int32) (x w : Int32) : Int32 := if x < 0 then m2 else if w = Int32.ofInt 1 then A 2 (nC x) else if w = Int32.ofInt 2 then A 3 (nC x) else m2
noncomputable def lsA (A : Nat → Nat → Int32) : Nat → Int32 → Int32 → Int32
  | 0, n, _ => n
  | c + 1, n, r => if r ≤ 0 then n else lsA A c (ptA A n (rm3 r)) (r / Int32.ofInt 3)
theorem foA_y {A : Nat → Nat → Int32} {c : Nat} {r : Int32} {s : Nat × (Nat → Int32) × (Nat → Int32)} (h : r ≤ 0) : foA A (c + 1) r s = s := if_pos h
theorem foA_n {A : Nat → Nat → Int32} {c : Nat} {r : Int32} {s : Nat × (Nat → Int32) × (Nat → Int32)} (h : ¬ r ≤ 0) : foA A (c + 1) r s = foA A c (r / Int32.ofInt 3) (sdA A (rm3 r - Int32.ofInt 1) s) := if_neg h
theorem foA_0 {A : Nat → Nat → Int32} {r : Int32} {s : Nat × (Nat → Int32) × (Nat → Int32)} : foA A 0 r s = s := rfl
theorem lsA_y {A : Nat → Nat → Int32} {c : Nat} {n r : Int32} (h : r ≤ 0) : lsA A c n r = n := by
  cases c with
  | zero => rfl
  | succ c => exact if_pos h
theorem lsA_n {A : Nat → Nat → Int32} {c : Nat} {n r : Int32} (h : ¬ r ≤ 0) : lsA A (c + 1) n r = lsA A c (ptA A n (rm3 r)) (r / Int32.ofInt 3) := if_neg h
theorem ptA_m2 (A : Nat → Nat → Int32) (w : Int32) : ptA A m2 w = m2 := if_pos (by decide)
theorem lsA_m2 (A : Nat → Nat → Int32) : ∀ (c : Nat) (r : Int32), lsA A c m2 r = m2
  | 0, _ => rfl
  | c + 1, r => by
    by_cases h : r ≤ 0
    · exact lsA_y h
    · rw [lsA_n h, ptA_m2, lsA_m2 A c]
theorem le0_i {x : Int32} : x ≤ 0 ↔ x.toInt ≤ 0 := by rw [Int32.le_iff_toInt_le, Int32.toInt_zero]
theorem dv3 {k : Int32} {c : Nat} (h0 : ¬ k ≤ 0) (h : k.toInt < ((3 ^ (c + 1) : Nat) : Int)) : (k / Int32.ofInt 3).toInt < ((3 ^ c : Nat) : Int) ∧ 0 ≤ (k / Int32.ofInt 3).toInt := by
  rw [le0_i] at h0
  rw [div3 (by omega)]
  have e : (3 ^ (c + 1) : Nat) = 3 ^ c * 3 := Nat.pow_succ 3 c
  omega
theorem m2_n {n : Nat} (h : n < 2 ^ 31) : ¬ nI n = m2 := fun e => by
  have : (nI n).toInt = m2.toInt := by rw [e]
  rw [nI_toInt h, show m2.toInt = -2 from by decide] at this
  omega
set_option maxHeartbeats 1000000 in
set_option maxRecDepth 20000 in
theorem leadL2X (f : Nat → zC) (o : Nat → Int32) (A : Nat → Nat → Int32) (J : Nat → Nat → Int64) {u : Nat} (hu : u ≤ 120) (hT : tbI 0 u A) {t : Nat} (ht : t < u) {x y z : Int32} {n0 : Nat} : ∀ (c : Nat) (k : Int32), k.toInt < ((3 ^ c : Nat) : Int) → ∀ {d : Nat} {N D : Nat → Int32}, d ≤ 39 → rtM A t d N → zV (zMo 2 zX7_lead) false n0 0 0 87 [(4, .int k), (3, .int z), (2, .int y), (0, .ref 76), (1, .int x)] [] (wR f (upd o 33 (nI d)) (updA (updA A 20 N) 21 D) J) (fun r w' => r = some (.int ((foA A c k (d, N, D)).2.1 (foA A c k (d, N, D)).1)) ∧ w' = (wR f (upd o 33 (nI (foA A c k (d, N, D)).1)) (updA (updA A 20 (foA A c k (d, N, D)).2.1) 21 (foA A c k (d, N, D)).2.2) J)) := by
  intro c
  induction c with
  | zero =>
    intro k hk d N D hd hr
    rw [foA_0]
    iterate 2 (refine zv_step (bX7_lead 2) rfl rfl trivial ?_)
    refine zv_ift (show k ≤ 0 by rw [le0_i]; omega) ?_
    iterate 4 (refine zv_step (bX7_lead 2) rfl rfl trivial ?_)
    refine zv_iale (bX7_lead 2) rfl rfl (show vp_in (nI d) 41 from vp_in_nI (by omega) (by decide)) (show N (nI d).toNatClampNeg = N d by rw [nI_clamp (by omega)]) ?_
    exact zv_iret (bX7_lead 2) rfl (Or.inl rfl) (Nat.zero_le _) (Nat.zero_le _) ⟨rfl, rfl⟩
  | succ c ih =>
    intro k hk d N D hd hr
    iterate 2 (refine zv_step (bX7_lead 2) rfl rfl trivial ?_)
    refine zv_ifb (fun h89 => ?_) (fun h89 => ?_)
    · rw [foA_y h89]
      iterate 4 (refine zv_step (bX7_lead 2) rfl rfl trivial ?_)
      refine zv_iale (bX7_lead 2) rfl rfl (show vp_in (nI d) 41 from vp_in_nI (by omega) (by decide)) (show N (nI d).toNatClampNeg = N d by rw [nI_clamp (by omega)]) ?_
      exact zv_iret (bX7_lead 2) rfl (Or.inl rfl) (Nat.zero_le _) (Nat.zero_le _) ⟨rfl, rfl⟩
    · rw [foA_n h89]
      have k1 := dv3 h89 hk
      have hr1 := rt_sdA hu hT ht (rm3 k - Int32.ofInt 1) (s := (d, N, D)) hr
      have hd1 := rtM_d hT ht hr1
      iterate 3 (refine zv_step (bX7_lead 2) rfl rfl trivial ?_)
      refine zv_step (bX7_lead 2) rfl rfl (show ¬ Int32.ofInt 3 = 0 by decide) ?_
      iterate 2 (refine zv_step (bX7_lead 2) rfl rfl trivial ?_)
      refine zv_V1 (bX7_lead 2) rfl rfl rfl rfl rfl rfl rfl ⟨rfl, rfl, rfl⟩ ⟨by decide, by decide⟩ ⟨Nat.zero_le _, Nat.zero_le _⟩ (mDownX f o A J hu hT ht D hr _) ?_
      rintro _ _ ⟨rfl, ⟨_, rfl⟩ | ⟨_, rfl⟩⟩
      · skip
        iterate 3 (refine zv_step (bX7_lead 2) rfl rfl trivial ?_)
        refine zv_step (bX7_lead 2) rfl rfl (show ¬ Int32.ofInt 3 = 0 by decide) ?_
        iterate 2 (refine zv_step (bX7_lead 2) rfl rfl trivial ?_)
        refine zv_locals (l := [(4, .int (k / Int32.ofInt 3)), (5, .int 1), (3, .int z), (2, .int y), (0, .ref 76), (1, .int x)]) (l' := [(4, .int (k / Int32.ofInt 3)), (3, .int z), (2, .int y), (0, .ref 76), (1, .int x)]) ?_ (ih _ k1.1 (d := (sdA A (rm3 k - Int32.ofInt 1) (d, N, D)).1) (N := (sdA A (rm3 k - Int32.ofInt 1) (d, N, D)).2.1) (D := (sdA A (rm3 k - Int32.ofInt 1) (d, N, D)).2.2) hd1 hr1)
        simp
      · skip
        iterate 3 (refine zv_step (bX7_lead 2) rfl rfl trivial ?_)
        refine zv_step (bX7_lead 2) rfl rfl (show ¬ Int32.ofInt 3 = 0 by decide) ?_
        iterate 2 (refine zv_step (bX7_lead 2) rfl rfl trivial ?_)
        refine zv_locals (l := [(4, .int (k / Int32.ofInt 3)), (5, .int 0), (3, .int z), (2, .int y), (0, .ref 76), (1, .int x)]) (l' := [(4, .int (k / Int32.ofInt 3)), (3, .int z), (2, .int y), (0, .ref 76), (1, .int x)]) ?_ (ih _ k1.1 (d := (sdA A (rm3 k - Int32.ofInt 1) (d, N, D)).1) (N := (sdA A (rm3 k - Int32.ofInt 1) (d, N, D)).2.1) (D := (sdA A (rm3 k - Int32.ofInt 1) (d, N, D)).2.2) hd1 hr1)
        simp
set_option maxHeartbeats 1000000 in
set_option maxRecDepth 20000 in
theorem leadL1X (f : Nat → zC) (o : Nat → Int32) (A : Nat → Nat → Int32) (J : Nat → Nat → Int64) {u : Nat} (hu : u ≤ 120) (hT : tbI 0 u A) {x : Int32} {n0 : Nat} {Q : Option Value → zW → Prop} : ∀ (c : Nat) (k y : Int32), k.toInt < ((3 ^ c : Nat) : Int) → (y = m2 ∨ ∃ n : Nat, y = nI n ∧ n < u) → ((lsA A c y k = m2 ∨ k.toInt < 0) → Q (some (.int (Int32.ofInt (-1)))) (wR f o A J)) → (¬ (lsA A c y k = m2 ∨ k.toInt < 0) → ∀ y' z' : Int32, zV (zMo 2 zX7_lead) false n0 0 0 79 [(3, .int z'), (2, .int y'), (0, .ref 76), (1, .int x)] [] (wR f o A J) Q) → zV (zMo 2 zX7_lead) false n0 0 0 19 [(3, .int k), (2, .int y), (0, .ref 76), (1, .int x)] [] (wR f o A J) Q := by
  intro c
  induction c with
  | zero =>
    intro k y hk hn hF hS
    have hk : k.toInt < 1 := hk
    rcases hn with rfl | ⟨n, rfl, hn⟩
    · iterate 2 (refine zv_step (bX7_lead 2) rfl rfl trivial ?_)
      refine zv_ift (by decide) ?_
      iterate 2 (refine zv_step (bX7_lead 2) rfl rfl trivial ?_)
      refine zv_ift (by decide) ?_
      iterate 1 (refine zv_step (bX7_lead 2) rfl rfl trivial ?_)
      exact zv_iret (bX7_lead 2) rfl (Or.inl rfl) (Nat.zero_le _) (Nat.zero_le _) (hF (Or.inl (lsA_m2 A _ k)))
    · obtain ⟨hq2, hq3⟩ := rN_dn (hT n (Nat.zero_le _) hn)
      iterate 2 (refine zv_step (bX7_lead 2) rfl rfl trivial ?_)
      refine zv_iff (nI_pos (by omega)) ?_
      iterate 2 (refine zv_step (bX7_lead 2) rfl rfl trivial ?_)
      refine zv_ift (show k ≤ 0 by rw [le0_i]; omega) ?_
      iterate 2 (refine zv_step (bX7_lead 2) rfl rfl trivial ?_)
      refine zv_iff (nI_pos (by omega)) ?_
      iterate 2 (refine zv_step (bX7_lead 2) rfl rfl trivial ?_)
      refine zv_ifb (fun h74 => ?_) (fun h74 => ?_)
      · refine hS (fun q => q.elim (fun e => m2_n (show n < 2 ^ 31 by omega) ((lsA_y (le0_i.mpr (by omega))).symm.trans e)) (fun e => by have h9 : 0 ≤ k := h74; rw [Int32.le_iff_toInt_le, Int32.toInt_zero] at h9; omega)) _ _
      · iterate 1 (refine zv_step (bX7_lead 2) rfl rfl trivial ?_)
        exact zv_iret (bX7_lead 2) rfl (Or.inl rfl) (Nat.zero_le _) (Nat.zero_le _) (hF (Or.inr (by have h9 : ¬ 0 ≤ k := h74; rw [Int32.le_iff_toInt_le, Int32.toInt_zero] at h9; omega)))
  | succ c ih =>
    intro k y hk hn hF hS
    rcases hn with rfl | ⟨n, rfl, hn⟩
    · iterate 2 (refine zv_step (bX7_lead 2) rfl rfl trivial ?_)
      refine zv_ift (by decide) ?_
      iterate 2 (refine zv_step (bX7_lead 2) rfl rfl trivial ?_)
      refine zv_ift (by decide) ?_
      iterate 1 (refine zv_step (bX7_lead 2) rfl rfl trivial ?_)
      exact zv_iret (bX7_lead 2) rfl (Or.inl rfl) (Nat.zero_le _) (Nat.zero_le _) (hF (Or.inl (lsA_m2 A _ k)))
    · obtain ⟨hq2, hq3⟩ := rN_dn (hT n (Nat.zero_le _) hn)
      iterate 2 (refine zv_step (bX7_lead 2) rfl rfl trivial ?_)
      refine zv_iff (nI_pos (by omega)) ?_
      iterate 2 (refine zv_step (bX7_lead 2) rfl rfl trivial ?_)
      refine zv_ifb (fun h24 => ?_) (fun h24 => ?_)
      · have k0 : k.toInt ≤ 0 := le0_i.mp h24
        iterate 2 (refine zv_step (bX7_lead 2) rfl rfl trivial ?_)
        refine zv_iff (nI_pos (by omega)) ?_
        iterate 2 (refine zv_step (bX7_lead 2) rfl rfl trivial ?_)
        refine zv_ifb (fun h74 => ?_) (fun h74 => ?_)
        · refine hS (fun q => q.elim (fun e => m2_n (show n < 2 ^ 31 by omega) ((lsA_y (le0_i.mpr (by omega))).symm.trans e)) (fun e => by have h9 : 0 ≤ k := h74; rw [Int32.le_iff_toInt_le, Int32.toInt_zero] at h9; omega)) _ _
        · iterate 1 (refine zv_step (bX7_lead 2) rfl rfl trivial ?_)
          exact zv_iret (bX7_lead 2) rfl (Or.inl rfl) (Nat.zero_le _) (Nat.zero_le _) (hF (Or.inr (by have h9 : ¬ 0 ≤ k := h74; rw [Int32.le_iff_toInt_le, Int32.toInt_zero] at h9; omega)))
      · have k1 := dv3 h24 hk
        have k2 : ¬ k.toInt ≤ 0 := fun q => h24 (le0_i.mpr q)
        iterate 2 (refine zv_step (bX7_lead 2) rfl rfl trivial ?_)
        refine zv_step (bX7_lead 2) rfl rfl (show ¬ Int32.ofInt 3 = 0 by decide) ?_
        iterate 2 (refine zv_step (bX7_lead 2) rfl rfl trivial ?_)
        refine zv_ifb (fun h31 => ?_) (fun h31 => ?_)
        · iterate 2 (refine zv_step (bX7_lead 2) rfl rfl trivial ?_)
          refine zv_step (bX7_lead 2) rfl rfl (show ¬ Int32.ofInt 3 = 0 by decide) ?_
          iterate 2 (refine zv_step (bX7_lead 2) rfl rfl trivial ?_)
          refine zv_ifb (fun h47 => ?_) (fun h47 => ?_)
          · iterate 4 (refine zv_step (bX7_lead 2) rfl rfl trivial ?_)
            refine zv_step (bX7_lead 2) rfl rfl (show ¬ Int32.ofInt 3 = 0 by decide) ?_
            iterate 2 (refine zv_step (bX7_lead 2) rfl rfl trivial ?_)
            have e9 := show ptA A (nI n) (rm3 k) = m2 by unfold ptA; rw [if_neg (nI_pos (by omega)), if_neg (show ¬ rm3 k = Int32.ofInt 1 from h31), if_neg (show ¬ rm3 k = Int32.ofInt 2 from h47)]
            rw [lsA_n h24, e9] at hF hS
            refine zv_locals (l := [(3, .int (k / Int32.ofInt 3)), (2, .int (m2)), (0, .ref 76), (1, .int x)]) (l' := [(3, .int (k / Int32.ofInt 3)), (2, .int (m2)), (0, .ref 76), (1, .int x)]) ?_ (ih _ _ k1.1 (Or.inl rfl) (fun w => hF (w.imp id (fun q => absurd q (by omega)))) (fun w => hS (fun q => w (q.imp id (fun q => absurd q (by omega))))))
            simp
          · iterate 3 (refine zv_step (bX7_lead 2) rfl rfl trivial ?_)
            refine zv_iale (bX7_lead 2) rfl rfl (vp_in_nI (by omega) (by decide)) (show A 3 (nI n).toNatClampNeg = A 3 n by rw [nI_clamp (by omega)]) ?_
            iterate 4 (refine zv_step (bX7_lead 2) rfl rfl trivial ?_)
            refine zv_step (bX7_lead 2) rfl rfl (show ¬ Int32.ofInt 3 = 0 by decide) ?_
            iterate 2 (refine zv_step (bX7_lead 2) rfl rfl trivial ?_)
            have e9 := show ptA A (nI n) (rm3 k) = A 3 n by unfold ptA; rw [if_neg (nI_pos (by omega)), if_neg (show ¬ rm3 k = Int32.ofInt 1 from h31), if_pos (show rm3 k = Int32.ofInt 2 from Decidable.not_not.mp h47), show nC (nI n) = n from nI_clamp (by omega)]
            rw [lsA_n h24, e9] at hF hS
            refine zv_locals (l := [(3, .int (k / Int32.ofInt 3)), (2, .int (A 3 n)), (0, .ref 76), (1, .int x)]) (l' := [(3, .int (k / Int32.ofInt 3)), (2, .int (A 3 n)), (0, .ref 76), (1, .int x)]) ?_ (ih _ _ k1.1 (pq hT hn hq3) (fun w => hF (w.imp id (fun q => absurd q (by omega)))) (fun w => hS (fun q => w (q.imp id (fun q => absurd q (by omega))))))
            simp
        · iterate 3 (refine zv_step (bX7_lead 2) rfl rfl trivial ?_)
          refine zv_iale (bX7_lead 2) rfl rfl (vp_in_nI (by omega) (by decide)) (show A 2 (nI n).toNatClampNeg = A 2 n by rw [nI_clamp (by omega)]) ?_
          iterate 4 (refine zv_step (bX7_lead 2) rfl rfl trivial ?_)
          refine zv_step (bX7_lead 2) rfl rfl (show ¬ Int32.ofInt 3 = 0 by decide) ?_
          iterate 2 (refine zv_step (bX7_lead 2) rfl rfl trivial ?_)
          have e9 := show ptA A (nI n) (rm3 k) = A 2 n by unfold ptA; rw [if_neg (nI_pos (by omega)), if_pos (show rm3 k = Int32.ofInt 1 from Decidable.not_not.mp h31), show nC (nI n) = n from nI_clamp (by omega)]
          rw [lsA_n h24, e9] at hF hS
          refine zv_locals (l := [(3, .int (k / Int32.ofInt 3)), (2, .int (A 2 n)), (0, .ref 76), (1, .int x)]) (l' := [(3, .int (k / Int32.ofInt 3)), (2, .int (A 2 n)), (0, .ref 76), (1, .int x)]) ?_ (ih _ _ k1.1 (pq hT hn hq2) (fun w => hF (w.imp id (fun q => absurd q (by omega)))) (fun w => hS (fun q => w (q.imp id (fun q => absurd q (by omega))))))
          simp
theorem mR_rt (f : Nat → zC) {o : Nat → Int32} (A : Nat → Nat → Int32) (J : Nat → Nat → Int64) {d : Nat} (h : o 33 = nI d) : wR f o A J = (wR f (upd o 33 (nI d)) (updA (updA A 20 (A 20)) 21 (A 21)) J) := by
  rw [upd_same h, updA_same A 20, updA_same A 21]
theorem x320 (x : Int32) : x.toInt < ((3 ^ 20 : Nat) : Int) := by
  have := Int32.toInt_lt x
  omega
set_option maxHeartbeats 1000000 in
set_option maxRecDepth 20000 in
theorem mLeadX (f : Nat → zC) (o : Nat → Int32) (A : Nat → Nat → Int32) (J : Nat → Nat → Int64) {u : Nat} (hu : u ≤ 120) (hT : tbI 0 u A) {d : Nat} (ho33 : o 33 = nI d) (hb : o 30 = 0 ∨ o 30 = 1) (hr : o 30 = 1 → ∃ t, t < u ∧ rtM A t d (A 20)) (x : Int32) : zK 2 zX7_lead [.ref 76, .int x] (wR f o A J) (fun r w' => ∃ (s' : Nat × (Nat → Int32) × (Nat → Int32)) (R : Int32), r = some (.int R) ∧ w' = (wR f (upd o 33 (nI s'.1)) (updA (updA A 20 s'.2.1) 21 s'.2.2) J) ∧ ldR (o 30 = 1) (0 ≤ x.toInt ∧ ¬ lsA A 20 (A 20 0) x = m2) (foA A 20 x (0, A 20, A 21)) (d, A 20, A 21) s' R) := by
  refine zK_of qX7_lead (by decide +kernel) rfl ?_
  iterate 3 (refine zv_step (bX7_lead 2) rfl rfl trivial ?_)
  refine zv_ifb (fun h4 => ?_) (fun h4 => ?_)
  · have hb1 : o 30 = 1 := hb.resolve_left h4
    obtain ⟨t, ht, hr0⟩ := hr hb1
    iterate 3 (refine zv_step (bX7_lead 2) rfl rfl trivial ?_)
    refine zv_iale (bX7_lead 2) rfl rfl (show vp_in (nI 0) 41 from vp_in_nI (by decide) (by decide)) (show A 20 0 = nI t from hr0.1) ?_
    iterate 3 (refine zv_step (bX7_lead 2) rfl rfl trivial ?_)
    refine leadL1X f o A J hu hT 20 x (nI t) (x320 x) (Or.inr ⟨t, rfl, ht⟩) (fun w => ⟨(d, A 20, A 21), _, rfl, mR_rt f A J ho33, Or.inr ⟨hb1, Or.inl ⟨fun q => w.elim (fun e => q.2 (by rw [hr0.1]; exact e)) (fun e => by omega), rfl, rfl⟩⟩⟩) (fun w9 y9 z9 => ?_)
    have hx0 : 0 ≤ x.toInt := by
      have h9 : ¬ x.toInt < 0 := fun q => w9 (Or.inr q)
      omega
    iterate 5 (refine zv_step (bX7_lead 2) rfl rfl trivial ?_)
    refine zv_world (show _ = (wR f (upd o 33 (nI 0)) (updA (updA A 20 (A 20)) 21 (A 21)) J) from by rw [updA_same A 20, updA_same A 21]; rfl) ?_
    refine zv_locals (l := [(4, .int x), (3, .int z9), (2, .int y9), (0, .ref 76), (1, .int x)]) (l' := [(4, .int x), (3, .int z9), (2, .int y9), (0, .ref 76), (1, .int x)]) (fun q h => h) ?_
    refine zv_weak (fun r w q => ?_) (leadL2X f o A J hu hT ht 20 x (x320 x) (by decide) (rtM_up hr0 (Nat.zero_le _)))
    exact ⟨(foA A 20 x (0, A 20, A 21)), _, q.1, q.2, Or.inr ⟨hb1, Or.inr ⟨⟨by omega, fun e => w9 (Or.inl (by rw [← hr0.1]; exact e))⟩, rfl, rfl⟩⟩⟩
  · iterate 1 (refine zv_step (bX7_lead 2) rfl rfl trivial ?_)
    exact zv_iret (bX7_lead 2) rfl (Or.inl rfl) (Nat.zero_le _) (Nat.zero_le _) ⟨(d, A 20, A 21), _, rfl, mR_rt f A J ho33, Or.inl ⟨fun q => h4 (fun w => absurd (q.symm.trans w) (by decide)), rfl, rfl⟩⟩
/-- what where answers: told by a PATH, a depth, a NODE; thr: it throws -/
def whR (b : Prop) (d : Nat) (here tol : Int32) (x : Int32) (thr : Bool) (R : Int32) : Prop :=
  (¬ (0 ≤ x.toInt ∧ x.toInt ≤ 2) ∧ thr = false ∧ R = Int32.ofInt (-1)) ∨ ((0 ≤ x.toInt ∧ x.toInt ≤ 2) ∧ ((¬ b ∧ thr = false ∧ R = c8 (-2)) ∨ (b ∧ ((x = nI 1 ∧ thr = false ∧ R = nI d) ∨ (x = nI 2 ∧ thr = false ∧ R = here) ∨ (x = nI 0 ∧ 19 < d ∧ thr = true) ∨ (x = nI 0 ∧ d ≤ 19 ∧ thr = false ∧ R = tol)))))
noncomputable def anA (D : Nat → Int32) : Nat → Int32 → Int32
  | 0, t => t
  | k + 1, t => anA D k (Int32.ofInt 3 * t + D (k + 1) + Int32.ofInt 1)
set_option maxHeartbeats 1000000 in
set_option maxRecDepth 20000 in
theorem whereLX (f : Nat → zC) (o : Nat → Int32) (A : Nat → Nat → Int32) (J : Nat → Nat → Int64) {n0 : Nat} (x : Int32) : ∀ (k : Nat), k ≤ 40 → ∀ {x3 v : Int32}, x3 = nI k → zV (zMo 2 zX7_where) false n0 0 0 78 [(3, .int x3), (2, .int v), (0, .ref 76), (1, .int x)] [] (wR f (upd o 16 (Int32.ofInt 0)) A J) (fun r w' => r = some (.int (anA (A 21) k v)) ∧ w' = (wR f (upd o 16 (Int32.ofInt 0)) A J)) := by
  intro k
  induction k with
  | zero =>
    intro hk x3 v e3
    subst e3
    iterate 2 (refine zv_step (bX7_where 2) rfl rfl trivial ?_)
    refine zv_ift (show nI 0 ≤ 0 by decide) ?_
    iterate 1 (refine zv_step (bX7_where 2) rfl rfl trivial ?_)
    exact zv_iret (bX7_where 2) rfl (Or.inl rfl) (Nat.zero_le _) (Nat.zero_le _) ⟨rfl, rfl⟩
  | succ k ih =>
    intro hk x3 v e3
    subst e3
    iterate 2 (refine zv_step (bX7_where 2) rfl rfl trivial ?_)
    refine zv_iff (nI_nle (by omega) (by omega)) ?_
    iterate 6 (refine zv_step (bX7_where 2) rfl rfl trivial ?_)
    refine zv_iale (bX7_where 2) rfl rfl (show vp_in (nI (k + 1)) 41 from vp_in_nI (by omega) (by decide)) (show A 21 (nI (k + 1)).toNatClampNeg = A 21 (k + 1) by rw [nI_clamp (by omega)]) ?_
    iterate 6 (refine zv_step (bX7_where 2) rfl rfl trivial ?_)
    refine zv_locals (l := [(3, .int (nI (k + 1) + Int32.ofInt (-1))), (2, .int (Int32.ofInt 3 * v + A 21 (k + 1) + Int32.ofInt 1)), (0, .ref 76), (1, .int x)]) (l' := [(3, .int (nI (k + 1) + Int32.ofInt (-1))), (2, .int (Int32.ofInt 3 * v + A 21 (k + 1) + Int32.ofInt 1)), (0, .ref 76), (1, .int x)]) (fun q h => h) (ih (by omega) (nI_dec k))
set_option maxHeartbeats 1000000 in
set_option maxRecDepth 20000 in
theorem mWhereX (f : Nat → zC) (o : Nat → Int32) (A : Nat → Nat → Int32) (J : Nat → Nat → Int64) {d : Nat} (hd : d ≤ 39) (ho33 : o 33 = nI d) (hb : o 30 = 0 ∨ o 30 = 1) (x : Int32) : zK 2 zX7_where [.ref 76, .int x] (wR f o A J) (fun r w' => ∃ (thr : Bool) (R : Int32), r = some (.int R) ∧ w' = wR f (upd o 16 (if thr then Int32.ofInt 1 else Int32.ofInt 0)) A J ∧ whR (o 30 = 1) d (A 20 d) (anA (A 21) d (Int32.ofInt 0)) x thr R) := by
  refine zK_of qX7_where (by decide +kernel) rfl ?_
  iterate 7 (refine zv_step (bX7_where 2) rfl rfl trivial ?_)
  refine zv_S3 (bX7_where 2) rfl rfl rfl rfl ⟨rfl, rfl, rfl⟩ ⟨by decide, by decide⟩ ⟨Nat.zero_le _, Nat.zero_le _⟩ (mIn _ _ _ _ (a := 0) (b := 2) (by decide) (by decide)) ?_
  rintro _ _ ⟨rfl, ⟨g1, rfl⟩ | ⟨g1, rfl⟩⟩
  · try rw [Int32.toInt_toInt64] at g1
    obtain ⟨c, hc, ec⟩ := in_nat (x := x) (b := 2) (by decide) g1
    iterate 1 (refine zv_step (bX7_where 2) rfl rfl trivial ?_)
    refine zv_ift (by decide) ?_
    iterate 3 (refine zv_step (bX7_where 2) rfl rfl trivial ?_)
    refine zv_ifb (fun h23 => ?_) (fun h23 => ?_)
    · have hb1 : o 30 = 1 := hb.resolve_left h23
      iterate 2 (refine zv_step (bX7_where 2) rfl rfl trivial ?_)
      refine zv_ifb (fun h30 => ?_) (fun h30 => ?_)
      · have hx0 : x = nI 0 := by
          have h9 : x ≤ 0 := h30
          rw [le0_i] at h9
          rw [ec, nI_toInt (by omega)] at h9
          rw [ec, show c = 0 by omega]
        iterate 4 (refine zv_step (bX7_where 2) rfl rfl trivial ?_)
        refine zv_ifb (fun h61 => ?_) (fun h61 => ?_)
        · have q61 : d ≤ 19 := by
            have h9 : o 33 ≤ nI 19 := h61
            rw [ho33, nI_leI (by omega) (by decide)] at h9
            exact h9
          iterate 5 (refine zv_step (bX7_where 2) rfl rfl trivial ?_)
          refine zv_weak (fun r w q => ⟨false, _, q.1, q.2, Or.inr ⟨g1, Or.inr ⟨hb1, Or.inr (Or.inr (Or.inr ⟨hx0, q61, rfl, rfl⟩))⟩⟩⟩) (whereLX f o A J x d (by omega) ho33)
        · have q61 : ¬ d ≤ 19 := fun q => h61 (show o 33 ≤ nI 19 by rw [ho33, nI_leI (by omega) (by decide)]; exact q)
          iterate 4 (refine zv_step (bX7_where 2) rfl rfl trivial ?_)
          exact zv_iret (bX7_where 2) rfl (Or.inl rfl) (Nat.zero_le _) (Nat.zero_le _) ⟨true, _, rfl, rfl, Or.inr ⟨g1, Or.inr ⟨hb1, Or.inr (Or.inr (Or.inl ⟨hx0, by omega, rfl⟩))⟩⟩⟩
      · have hxc : 1 ≤ c := by
          have h9 : ¬ x ≤ 0 := h30
          rw [le0_i] at h9
          rw [ec, nI_toInt (by omega)] at h9
          omega
        iterate 3 (refine zv_step (bX7_where 2) rfl rfl trivial ?_)
        refine zv_ifb (fun h35 => ?_) (fun h35 => ?_)
        · have hx2 : x = nI 2 := by
            have h9 : ¬ x = nI 1 := h35
            rw [ec, nI_eq (by omega) (by decide)] at h9
            rw [ec, show c = 2 by omega]
          iterate 4 (refine zv_step (bX7_where 2) rfl rfl trivial ?_)
          refine zv_iale (bX7_where 2) rfl rfl (show vp_in (o 33) 41 by rw [ho33]; exact vp_in_nI (by omega) (by decide)) (show A 20 (o 33).toNatClampNeg = A 20 d by rw [ho33, nI_clamp (by omega)]) ?_
          exact zv_iret (bX7_where 2) rfl (Or.inl rfl) (Nat.zero_le _) (Nat.zero_le _) ⟨false, _, rfl, rfl, Or.inr ⟨g1, Or.inr ⟨hb1, Or.inr (Or.inl ⟨hx2, rfl, rfl⟩)⟩⟩⟩
        · have hx1 : x = nI 1 := Decidable.not_not.mp h35
          iterate 3 (refine zv_step (bX7_where 2) rfl rfl trivial ?_)
          exact zv_iret (bX7_where 2) rfl (Or.inl rfl) (Nat.zero_le _) (Nat.zero_le _) ⟨false, nI d, congrArg (fun v => some (Value.int v)) (ho33), rfl, Or.inr ⟨g1, Or.inr ⟨hb1, Or.inl ⟨hx1, rfl, rfl⟩⟩⟩⟩
    · iterate 1 (refine zv_step (bX7_where 2) rfl rfl trivial ?_)
      exact zv_iret (bX7_where 2) rfl (Or.inl rfl) (Nat.zero_le _) (Nat.zero_le _) ⟨false, _, rfl, rfl, Or.inr ⟨g1, Or.inl ⟨fun q => h23 (fun w => absurd (q.symm.trans w) (by decide)), rfl, rfl⟩⟩⟩
  · try rw [Int32.toInt_toInt64] at g1
    iterate 1 (refine zv_step (bX7_where 2) rfl rfl trivial ?_)
    refine zv_iff (by decide) ?_
    iterate 1 (refine zv_step (bX7_where 2) rfl rfl trivial ?_)
    exact zv_iret (bX7_where 2) rfl (Or.inl rfl) (Nat.zero_le _) (Nat.zero_le _) ⟨false, _, rfl, rfl, Or.inl ⟨g1, rfl, rfl⟩⟩
