set_option maxHeartbeats 1000000 in
set_option maxRecDepth 20000 in
theorem bitL (w : zW) (x : Int32) {n0 : Nat} : ∀ (c k : Nat), k + c = 8 → ∀ {x2 v : Int32}, x2 = nI k → zV (zMo 0 zX7_bits) false n0 0 0 4 [(2, .int x2), (1, .int v), (0, .int x)] [] w (fun r w' => w' = w ∧ ∃ v : Int32, r = some (.int v)) := by
  intro c
  induction c with
  | zero =>
    intro k hk x2 v e2
    subst e2
    iterate 3 (refine zv_step (bX7_bits 0) rfl rfl trivial ?_)
    refine zv_ift (show nI 8 ≤ nI k from nI_le (by omega) (by omega)) ?_
    iterate 1 (refine zv_step (bX7_bits 0) rfl rfl trivial ?_)
    exact zv_iret (bX7_bits 0) rfl (Or.inl rfl) (Nat.zero_le _) (Nat.zero_le _) ⟨rfl, _, rfl⟩
  | succ c ih =>
    intro k hk x2 v e2
    subst e2
    iterate 3 (refine zv_step (bX7_bits 0) rfl rfl trivial ?_)
    refine zv_iff (show ¬ nI 8 ≤ nI k from fun h => absurd ((nI_leI (by omega) (by omega)).mp h) (by omega)) ?_
    iterate 10 (refine zv_step (bX7_bits 0) rfl rfl trivial ?_)
    exact ih (k + 1) (by omega) (nI_1 k)
set_option maxHeartbeats 1000000 in
set_option maxRecDepth 20000 in
theorem mBits (w : zW) (x : Int32) : zK 0 zX7_bits [.int x] w (fun r w' => w' = w ∧ ∃ v : Int32, r = some (.int v)) := by
  refine zK_of qX7_bits (by decide +kernel) rfl ?_
  iterate 4 (refine zv_step (bX7_bits 0) rfl rfl trivial ?_)
  exact bitL w x 8 0 rfl rfl
/-- fewest under way: the ear and what is said may have changed; the ear of before lies in row 15 -/
def fS (o0 : Nat → Int32) (A0 : Nat → Nat → Int32) (bf : Nat) (o : Nat → Int32) (A : Nat → Nat → Int32) : Prop := (∀ j, j ≠ 10 → ¬ (18 ≤ j ∧ j ≤ 21) → j ≠ 28 → o j = o0 j) ∧ (∀ r, r ≠ 8 → r ≠ 14 → r ≠ 15 → A r = A0 r) ∧ nnW bf (A 15) ∧ ∃ h : Nat, h ≤ 20 ∧ o 10 = nI h ∧ nnW h (A 8)
theorem fS_T {o0 o : Nat → Int32} {A0 A : Nat → Nat → Int32} {bf u : Nat} (h : fS o0 A0 bf o A) (hT : tbI 0 u A0) : tbI 0 u A := tbI_fr hT (fun r hr i _ _ => by rw [h.2.1 r (by omega) (by omega) (by omega)])
theorem fS_B {o0 o : Nat → Int32} {A0 A : Nat → Nat → Int32} {bf : Nat} (h : fS o0 A0 bf o A) (hB : blI A0) : blI A := ⟨fun i => by rw [h.2.1 6 (by decide) (by decide) (by decide)]; exact hB.1 i, fun i => by rw [h.2.1 7 (by decide) (by decide) (by decide)]; exact hB.2 i⟩
set_option maxHeartbeats 1000000 in
set_option maxRecDepth 20000 in
theorem mIsOnly (f : Nat → zC) (o : Nat → Int32) (A : Nat → Nat → Int32) (J : Nat → Nat → Int64) {o0 : Nat → Int32} {A0 : Nat → Nat → Int32} {bf u n : Nat} (hu : u ≤ 120) (hT0 : tbI 0 u A0) (hB0 : blI A0) (hF : fS o0 A0 bf o A) (hn : n < u) (w2 w3 : Int32) : zK 43 zX7_isOnly [.ref 76, .int (nI n), .int w2, .int w3] (wR f o A J) (fun r w' => ∃ (o' : Nat → Int32) (A' : Nat → Nat → Int32) (J' : Nat → Nat → Int64), w' = wR f o' A' J' ∧ fS o0 A0 bf o' A' ∧ (r = some (.int 1) ∨ r = some (.int 0))) := by
  have hT := fS_T hF hT0
  have hB := fS_B hF hB0
  have hF2 := hF.2.2.2
  refine zK_of qX7_isOnly (by decide +kernel) rfl ?_
  iterate 12 (refine zv_step (bX7_isOnly 43) rfl rfl trivial ?_)
  refine zv_world (show _ = wZ f (upd (upd o 19 w2) 21 w3) A J 0 (Int32.ofInt 0) (A 14) from rfl) ?_
  iterate 3 (refine zv_step (bX7_isOnly 43) rfl rfl trivial ?_)
  refine zv_V2 (bX7_isOnly 43) rfl rfl rfl rfl rfl rfl rfl ⟨rfl, rfl, rfl⟩ ⟨by decide, by decide⟩ ⟨Nat.zero_le _, Nat.zero_le _⟩ (mSay f (upd (upd o 19 w2) 21 w3) A J (by omega) hT hB (s := 0) (by decide) 40 n (Nat.zero_le _) hn (rN_sz (hT n (Nat.zero_le _) hn)).2.1 0 _ _ (by have := (rN_sz (hT n (Nat.zero_le _) hn)).2.1; omega) (fun i hi => absurd hi (by omega))) ?_
  rintro _ _ ⟨rfl, q1, m1, g1, rfl, l1, u1, w1, _⟩
  iterate 3 (refine zv_step (bX7_isOnly 43) rfl rfl trivial ?_)
  refine zv_world (show _ = wR f (upd (upd (upd (upd (upd o 19 w2) 21 w3) 20 m1) 18 (nI q1)) 19 (Int32.ofInt (-1))) (updA A 14 g1) J from rfl) ?_
  iterate 4 (refine zv_step (bX7_isOnly 43) rfl rfl trivial ?_)
  refine zv_ifb (fun h37 => ?_) (fun h37 => ?_)
  · have hq : q1 ≤ 20 := by
      have h9 : nI q1 ≤ nI 20 := h37
      have := (rN_sz (hT n (Nat.zero_le _) hn)).2.1
      rwa [nI_leI (by omega) (by decide)] at h9
    iterate 1 (refine zv_step (bX7_isOnly 43) rfl rfl trivial ?_)
    refine zv_V0 (bX7_isOnly 43) rfl rfl rfl rfl rfl rfl rfl ⟨rfl, rfl, rfl⟩ ⟨by decide, by decide⟩ ⟨Nat.zero_le _, Nat.zero_le _⟩ (mHears f (upd (upd (upd (upd (upd o 19 w2) 21 w3) 20 m1) 18 (nI q1)) 19 (Int32.ofInt (-1))) (updA A 14 g1) J hq rfl w1) ?_
    rintro _ _ ⟨rfl, g2, rfl, w9⟩
    iterate 2 (refine zv_step (bX7_isOnly 43) rfl rfl trivial ?_)
    refine zv_V1 (bX7_isOnly 43) rfl rfl rfl rfl rfl rfl rfl ⟨rfl, rfl, rfl⟩ ⟨by decide, by decide⟩ ⟨Nat.zero_le _, Nat.zero_le _⟩ (mCounted f (upd (upd (upd (upd (upd (upd o 19 w2) 21 w3) 20 m1) 18 (nI q1)) 19 (Int32.ofInt (-1))) 10 (nI q1)) (updA (updA A 14 g1) 8 g2) J hq w9 rfl (s := 8) (by decide) rfl) ?_
    rintro _ _ ⟨J1, rfl, rfl, hJ⟩
    iterate 3 (refine zv_step (bX7_isOnly 43) rfl rfl trivial ?_)
    refine zv_ifb (fun h54 => ?_) (fun h54 => ?_)
    · iterate 1 (refine zv_step (bX7_isOnly 43) rfl rfl trivial ?_)
      exact zv_iret (bX7_isOnly 43) rfl (Or.inr ⟨rfl, Or.inl rfl⟩) (Nat.zero_le _) (Nat.zero_le _) ⟨_, _, J1, rfl, ⟨fun j a b c => by rw [upd_ne _ _ c, upd_ne _ _ a, upd_ne _ _ (by omega), upd_ne _ _ (by omega), upd_ne _ _ (by omega), upd_ne _ _ (by omega), upd_ne _ _ (by omega)]; exact hF.1 j a b c, fun r a b c => (updA_ne _ _ a).trans ((updA_ne _ _ b).trans (hF.2.1 r a b c)), by rw [updA_ne _ _ (by decide), updA_ne _ _ (by decide)]; exact hF.2.2.1, q1, hq, rfl, by rw [updA_self]; exact w9⟩, Or.inr rfl⟩
    · iterate 2 (refine zv_step (bX7_isOnly 43) rfl rfl trivial ?_)
      exact zv_iret (bX7_isOnly 43) rfl (Or.inr ⟨rfl, Or.inr rfl⟩) (Nat.zero_le _) (Nat.zero_le _) ⟨_, _, J1, rfl, ⟨fun j a b c => by rw [upd_ne _ _ c, upd_ne _ _ a, upd_ne _ _ (by omega), upd_ne _ _ (by omega), upd_ne _ _ (by omega), upd_ne _ _ (by omega), upd_ne _ _ (by omega)]; exact hF.1 j a b c, fun r a b c => (updA_ne _ _ a).trans ((updA_ne _ _ b).trans (hF.2.1 r a b c)), by rw [updA_ne _ _ (by decide), updA_ne _ _ (by decide)]; exact hF.2.2.1, q1, hq, rfl, by rw [updA_self]; exact w9⟩, Or.inl rfl⟩
  · iterate 1 (refine zv_step (bX7_isOnly 43) rfl rfl trivial ?_)
    exact zv_iret (bX7_isOnly 43) rfl (Or.inr ⟨rfl, Or.inl rfl⟩) (Nat.zero_le _) (Nat.zero_le _) ⟨_, _, J, rfl, ⟨fun j a b c => by rw [upd_ne _ _ (by omega), upd_ne _ _ (by omega), upd_ne _ _ (by omega), upd_ne _ _ (by omega), upd_ne _ _ (by omega)]; exact hF.1 j a b c, fun r a b c => (updA_ne _ _ b).trans (hF.2.1 r a b c), by rw [updA_ne _ _ (by decide)]; exact hF.2.2.1, hF2⟩, Or.inr rfl⟩
/-- what fewest changes -/
def fwX (o : Nat → Int32) (A : Nat → Nat → Int32) (o' : Nat → Int32) (A' : Nat → Nat → Int32) : Prop := (∃ h : Nat, h ≤ 20 ∧ o' 10 = nI h ∧ nnW h (A' 8)) ∧ (∀ j, j ≠ 10 → ¬ (18 ≤ j ∧ j ≤ 21) → j ≠ 28 → o' j = o j) ∧ (∀ r, r ≠ 8 → r ≠ 14 → r ≠ 15 → A' r = A r)
theorem fwX_S {o0 o : Nat → Int32} {A0 A : Nat → Nat → Int32} {bf : Nat} (h : fS o0 A0 bf o A) : fwX o0 A0 o A := ⟨h.2.2.2, h.1, h.2.1⟩
set_option maxHeartbeats 1000000 in
set_option maxRecDepth 20000 in
theorem fewR (f : Nat → zC) (o : Nat → Int32) (A : Nat → Nat → Int32) (J : Nat → Nat → Int64) {o0 : Nat → Int32} {A0 : Nat → Nat → Int32} {bf u n : Nat} (hbf : bf ≤ 20) (hF : fS o0 A0 bf o A) {v : Int32} {n0 : Nat} : ∀ (c i : Nat) (g : Nat → Int32), i + c = bf → nnW i g → ∀ {x4 : Int32}, x4 = nI i → zV (zMo 44 zX7_fewest) false n0 0 0 141 [(4, .int x4), (3, .int (nI bf)), (2, .int v), (0, .ref 76), (1, .int (nI n))] [] (wR f o (updA A 8 g) J) (fun r w' => ∃ (o' : Nat → Int32) (A' : Nat → Nat → Int32) (J' : Nat → Nat → Int64) (R : Int32), r = some (.int R) ∧ w' = wR f o' A' J' ∧ fwX o0 A0 o' A') := by
  intro c
  induction c with
  | zero =>
    intro i g hi hg x4 e4
    subst e4
    iterate 3 (refine zv_step (bX7_fewest 44) rfl rfl trivial ?_)
    refine zv_ift (nI_le (by omega) (by omega)) ?_
    iterate 4 (refine zv_step (bX7_fewest 44) rfl rfl trivial ?_)
    exact zv_iret (bX7_fewest 44) rfl (Or.inl rfl) (Nat.zero_le _) (Nat.zero_le _) ⟨upd o 10 (nI bf), updA A 8 g, J, _, rfl, rfl, ⟨bf, hbf, upd_self _ _ _, by rw [updA_self, show bf = i by omega]; exact hg⟩, fun j a b c => (upd_ne _ _ a).trans (hF.1 j a b c), fun r a b c => (updA_ne _ _ a).trans (hF.2.1 r a b c)⟩
  | succ c ih =>
    intro i g hi hg x4 e4
    subst e4
    iterate 3 (refine zv_step (bX7_fewest 44) rfl rfl trivial ?_)
    refine zv_iff (fun h => absurd ((nI_leI (by omega) (by omega)).mp h) (by omega)) ?_
    iterate 6 (refine zv_step (bX7_fewest 44) rfl rfl trivial ?_)
    refine zv_iale (bX7_fewest 44) rfl rfl (vp_in_nI (by omega) (by decide)) (show A 15 (nI i).toNatClampNeg = A 15 i by rw [nI_clamp (by omega)]) ?_
    refine zv_step (bX7_fewest 44) rfl rfl (vp_in_nI (by omega) (by decide)) ?_
    iterate 2 (refine zv_step (bX7_fewest 44) rfl rfl trivial ?_)
    refine zv_world (show _ = wR f o (updA A 8 (upd g i (A 15 i))) J from by rw [show upd g i (A 15 i) = upd g (nI i).toNatClampNeg (A 15 i) by rw [nI_clamp (by omega)]]; rfl) ?_
    exact ih (i + 1) _ (by omega) (nnW_s hg (hF.2.2.1 i (by omega))) (nI_1 i)
set_option maxHeartbeats 1000000 in
set_option maxRecDepth 20000 in
theorem fewW (f : Nat → zC) {o0 : Nat → Int32} {A0 : Nat → Nat → Int32} {bf u n : Nat} (hbf : bf ≤ 20) (hu : u ≤ 120) (hT0 : tbI 0 u A0) (hB0 : blI A0) (hn : n < u) {v : Int32} {c n0 : Nat} (kk : ∀ (o : Nat → Int32) (A : Nat → Nat → Int32) (J : Nat → Nat → Int64), fS o0 A0 bf o A → zV (zMo 44 zX7_fewest) false n0 0 0 132 [(4, .int (nI c)), (3, .int (nI bf)), (2, .int v), (0, .ref 76), (1, .int (nI n))] [] (wR f o A J) (fun r w' => ∃ (o' : Nat → Int32) (A' : Nat → Nat → Int32) (J' : Nat → Nat → Int64) (R : Int32), r = some (.int R) ∧ w' = wR f o' A' J' ∧ fwX o0 A0 o' A')) : ∀ (w : Nat) (y : Int32) (o : Nat → Int32) (A : Nat → Nat → Int32) (J : Nat → Nat → Int64), fS o0 A0 bf o A → ((Int32.ofInt 1 <<< (v &&& 31)).toInt - y.toInt).toNat ≤ w → zV (zMo 44 zX7_fewest) false n0 0 0 92 [(5, .int y), (4, .int (nI c)), (3, .int (nI bf)), (2, .int v), (0, .ref 76), (1, .int (nI n))] [] (wR f o A J) (fun r w' => ∃ (o' : Nat → Int32) (A' : Nat → Nat → Int32) (J' : Nat → Nat → Int64) (R : Int32), r = some (.int R) ∧ w' = wR f o' A' J' ∧ fwX o0 A0 o' A') := by
  intro w
  induction w with
  | zero =>
    intro y o A J hF hfu
    iterate 5 (refine zv_step (bX7_fewest 44) rfl rfl trivial ?_)
    refine zv_ift (show (Int32.ofInt 1 <<< (v &&& 31)) ≤ y by rw [Int32.le_iff_toInt_le]; omega) ?_
    refine zv_locals (l := [(5, .int y), (4, .int (nI c)), (3, .int (nI bf)), (2, .int v), (0, .ref 76), (1, .int (nI n))]) (l' := [(4, .int (nI c)), (3, .int (nI bf)), (2, .int v), (0, .ref 76), (1, .int (nI n))]) ?_ (kk o A J hF)
    simp
  | succ w ih =>
    intro y o A J hF hfu
    iterate 5 (refine zv_step (bX7_fewest 44) rfl rfl trivial ?_)
    refine zv_ifb (fun h97 => ?_) (fun h97 => ?_)
    · refine zv_locals (l := [(5, .int y), (4, .int (nI c)), (3, .int (nI bf)), (2, .int v), (0, .ref 76), (1, .int (nI n))]) (l' := [(4, .int (nI c)), (3, .int (nI bf)), (2, .int v), (0, .ref 76), (1, .int (nI n))]) ?_ (kk o A J hF)
      simp
    · have hy : y.toInt < (Int32.ofInt 1 <<< (v &&& 31)).toInt := by
        have h9 : ¬ (Int32.ofInt 1 <<< (v &&& 31)) ≤ y := h97
        rw [Int32.le_iff_toInt_le] at h9
        omega
      iterate 1 (refine zv_step (bX7_fewest 44) rfl rfl trivial ?_)
      refine zv_S1 (bX7_fewest 44) rfl rfl rfl rfl ⟨rfl, rfl, rfl⟩ ⟨by decide, by decide⟩ ⟨Nat.zero_le _, Nat.zero_le _⟩ (mBits _ _) ?_
      rintro _ _ ⟨rfl, v9, rfl⟩
      iterate 2 (refine zv_step (bX7_fewest 44) rfl rfl trivial ?_)
      refine zv_ifb (fun h107 => ?_) (fun h107 => ?_)
      · iterate 2 (refine zv_step (bX7_fewest 44) rfl rfl trivial ?_)
        exact ih (y + Int32.ofInt 1) o A J hF (by
          have a1 := Int32.toInt_lt (Int32.ofInt 1 <<< (v &&& 31))
          have a2 := Int32.le_toInt y
          rw [Int32.toInt_add, show (Int32.ofInt 1).toInt = 1 from rfl, Int.bmod_eq_of_le (by omega) (by omega)]
          omega)
      · iterate 4 (refine zv_step (bX7_fewest 44) rfl rfl trivial ?_)
        refine zv_V3 (bX7_fewest 44) rfl rfl rfl rfl rfl rfl rfl ⟨rfl, rfl, rfl⟩ ⟨by decide, by decide⟩ ⟨Nat.zero_le _, Nat.zero_le _⟩ (mIsOnly f o A J hu hT0 hB0 hF hn _ _) ?_
        rintro _ _ ⟨o1, A1, J1, rfl, hF1, rfl | rfl⟩
        · skip
          iterate 1 (refine zv_step (bX7_fewest 44) rfl rfl trivial ?_)
          refine zv_iff (by decide) ?_
          iterate 2 (refine zv_step (bX7_fewest 44) rfl rfl trivial ?_)
          exact zv_iret (bX7_fewest 44) rfl (Or.inl rfl) (Nat.zero_le _) (Nat.zero_le _) ⟨o1, A1, J1, _, rfl, rfl, fwX_S hF1⟩
        · skip
          iterate 1 (refine zv_step (bX7_fewest 44) rfl rfl trivial ?_)
          refine zv_ift (by decide) ?_
          iterate 2 (refine zv_step (bX7_fewest 44) rfl rfl trivial ?_)
          exact ih (y + Int32.ofInt 1) o1 A1 J1 hF1 (by
            have a1 := Int32.toInt_lt (Int32.ofInt 1 <<< (v &&& 31))
            have a2 := Int32.le_toInt y
            rw [Int32.toInt_add, show (Int32.ofInt 1).toInt = 1 from rfl, Int.bmod_eq_of_le (by omega) (by omega)]
            omega)
set_option maxHeartbeats 1000000 in
set_option maxRecDepth 20000 in
theorem fewC (f : Nat → zC) {o0 : Nat → Int32} {A0 : Nat → Nat → Int32} {bf u n : Nat} (hbf : bf ≤ 20) (hu : u ≤ 120) (hT0 : tbI 0 u A0) (hB0 : blI A0) (hn : n < u) {v : Int32} (hv : v ≤ c8 8) {n0 : Nat} : ∀ (w c : Nat), c + w = 9 → ∀ (o : Nat → Int32) (A : Nat → Nat → Int32) (J : Nat → Nat → Int64), fS o0 A0 bf o A → ∀ {x4 : Int32}, x4 = nI c → zV (zMo 44 zX7_fewest) false n0 0 0 83 [(4, .int x4), (3, .int (nI bf)), (2, .int v), (0, .ref 76), (1, .int (nI n))] [] (wR f o A J) (fun r w' => ∃ (o' : Nat → Int32) (A' : Nat → Nat → Int32) (J' : Nat → Nat → Int64) (R : Int32), r = some (.int R) ∧ w' = wR f o' A' J' ∧ fwX o0 A0 o' A') := by
  intro w
  induction w with
  | zero =>
    intro c hc o A J hF x4 e4
    subst e4
    iterate 3 (refine zv_step (bX7_fewest 44) rfl rfl trivial ?_)
    refine zv_ift (show v < nI c by rw [show c = 9 by omega]; exact Int32.lt_of_le_of_lt hv (by decide)) ?_
    iterate 2 (refine zv_step (bX7_fewest 44) rfl rfl trivial ?_)
    refine zv_world (show _ = wR f o (updA A 8 (A 8)) J from rfl) ?_
    refine zv_locals (l := [(4, .int (Int32.ofInt 0)), (3, .int (nI bf)), (2, .int v), (0, .ref 76), (1, .int (nI n))]) (l' := [(4, .int (Int32.ofInt 0)), (3, .int (nI bf)), (2, .int v), (0, .ref 76), (1, .int (nI n))]) (fun q h => h) (fewR f o A J (u := 0) hbf hF bf 0 (A 8) (by omega) (fun i hi => absurd hi (by omega)) rfl)
  | succ w ih =>
    intro c hc o A J hF x4 e4
    subst e4
    iterate 3 (refine zv_step (bX7_fewest 44) rfl rfl trivial ?_)
    refine zv_ifb (fun h86 => ?_) (fun h86 => ?_)
    · iterate 2 (refine zv_step (bX7_fewest 44) rfl rfl trivial ?_)
      refine zv_world (show _ = wR f o (updA A 8 (A 8)) J from rfl) ?_
      refine zv_locals (l := [(4, .int (Int32.ofInt 0)), (3, .int (nI bf)), (2, .int v), (0, .ref 76), (1, .int (nI n))]) (l' := [(4, .int (Int32.ofInt 0)), (3, .int (nI bf)), (2, .int v), (0, .ref 76), (1, .int (nI n))]) (fun q h => h) (fewR f o A J (u := 0) hbf hF bf 0 (A 8) (by omega) (fun i hi => absurd hi (by omega)) rfl)
    · iterate 2 (refine zv_step (bX7_fewest 44) rfl rfl trivial ?_)
      refine zv_locals (l := [(5, .int (Int32.ofInt 0)), (4, .int (nI c)), (3, .int (nI bf)), (2, .int v), (0, .ref 76), (1, .int (nI n))]) (l' := [(5, .int (Int32.ofInt 0)), (4, .int (nI c)), (3, .int (nI bf)), (2, .int v), (0, .ref 76), (1, .int (nI n))]) (fun q h => h) (fewW f hbf hu hT0 hB0 hn (fun o A J hF => ?_) _ (Int32.ofInt 0) o A J hF (Nat.le_refl _))
      iterate 2 (refine zv_step (bX7_fewest 44) rfl rfl trivial ?_)
      exact ih (c + 1) (by omega) o A J hF (nI_1 c)
set_option maxHeartbeats 1000000 in
set_option maxRecDepth 20000 in
theorem fewK (f : Nat → zC) (o : Nat → Int32) (A : Nat → Nat → Int32) (J : Nat → Nat → Int64) {bf u n : Nat} (hbf : bf ≤ 20) (hu : u ≤ 120) (hT0 : tbI 0 u A) (hB0 : blI A) (hn : n < u) (ho10 : o 10 = nI bf) (hw : nnW bf (A 8)) {v : Int32} (hv : v ≤ c8 8) {n0 : Nat} : ∀ (c i : Nat) (g : Nat → Int32), i + c = bf → nnW i g → ∀ {x4 : Int32}, x4 = nI i → zV (zMo 44 zX7_fewest) false n0 0 0 54 [(4, .int x4), (3, .int (nI bf)), (2, .int v), (0, .ref 76), (1, .int (nI n))] [] (wR f o (updA A 15 g) J) (fun r w' => ∃ (o' : Nat → Int32) (A' : Nat → Nat → Int32) (J' : Nat → Nat → Int64) (R : Int32), r = some (.int R) ∧ w' = wR f o' A' J' ∧ fwX o A o' A') := by
  intro c
  induction c with
  | zero =>
    intro i g hi hg x4 e4
    subst e4
    iterate 3 (refine zv_step (bX7_fewest 44) rfl rfl trivial ?_)
    refine zv_ift (nI_le (by omega) (by omega)) ?_
    iterate 2 (refine zv_step (bX7_fewest 44) rfl rfl trivial ?_)
    refine zv_locals (l := [(4, .int (Int32.ofInt 0)), (3, .int (nI bf)), (2, .int v), (0, .ref 76), (1, .int (nI n))]) (l' := [(4, .int (Int32.ofInt 0)), (3, .int (nI bf)), (2, .int v), (0, .ref 76), (1, .int (nI n))]) (fun q h => h) (zv_weak (fun r w q => q) (fewC f (o0 := o) (A0 := A) hbf hu hT0 hB0 hn hv 9 0 rfl o (updA A 15 g) J ⟨fun _ _ _ _ => rfl, fun r a b c => updA_ne _ _ c, by rw [updA_self, show bf = i by omega]; exact hg, bf, hbf, ho10, hw⟩ rfl))
  | succ c ih =>
    intro i g hi hg x4 e4
    subst e4
    iterate 3 (refine zv_step (bX7_fewest 44) rfl rfl trivial ?_)
    refine zv_iff (fun h => absurd ((nI_leI (by omega) (by omega)).mp h) (by omega)) ?_
    iterate 6 (refine zv_step (bX7_fewest 44) rfl rfl trivial ?_)
    refine zv_iale (bX7_fewest 44) rfl rfl (vp_in_nI (by omega) (by decide)) (show A 8 (nI i).toNatClampNeg = A 8 i by rw [nI_clamp (by omega)]) ?_
    refine zv_step (bX7_fewest 44) rfl rfl (vp_in_nI (by omega) (by decide)) ?_
    iterate 2 (refine zv_step (bX7_fewest 44) rfl rfl trivial ?_)
    refine zv_world (show _ = wR f o (updA A 15 (upd g i (A 8 i))) J from by rw [show upd g i (A 8 i) = upd g (nI i).toNatClampNeg (A 8 i) by rw [nI_clamp (by omega)]]; rfl) ?_
    exact ih (i + 1) _ (by omega) (nnW_s hg (hw i (by omega))) (nI_1 i)
set_option maxHeartbeats 1000000 in
set_option maxRecDepth 20000 in
theorem mFewest (f : Nat → zC) (o : Nat → Int32) (A : Nat → Nat → Int32) (J : Nat → Nat → Int64) {u : Nat} (hu : u ≤ 120) (ho : o 0 = nI u) (hT0 : tbI 0 u A) (hB0 : blI A) {bf : Nat} (hbf : bf ≤ 20) (hw : nnW bf (A 8)) (ho10 : o 10 = nI bf) (x : Int32) : zK 44 zX7_fewest [.ref 76, .int x] (wR f o A J) (fun r w' => ∃ (o' : Nat → Int32) (A' : Nat → Nat → Int32) (J' : Nat → Nat → Int64) (R : Int32), r = some (.int R) ∧ w' = wR f o' A' J' ∧ fwX o A o' A') := by
  refine zK_of qX7_fewest (by decide +kernel) rfl ?_
  iterate 2 (refine zv_step (bX7_fewest 44) rfl rfl trivial ?_)
  refine zv_V1 (bX7_fewest 44) rfl rfl rfl rfl rfl rfl rfl ⟨rfl, rfl, rfl⟩ ⟨by decide, by decide⟩ ⟨Nat.zero_le _, Nat.zero_le _⟩ (mIsNode f o A J hu ho _) ?_
  rintro _ _ ⟨rfl, ⟨g1, rfl⟩ | ⟨g1, rfl⟩⟩
  · obtain ⟨n, hn, rfl⟩ := nd_of (by omega) g1
    iterate 1 (refine zv_step (bX7_fewest 44) rfl rfl trivial ?_)
    refine zv_ift (by decide) ?_
    iterate 2 (refine zv_step (bX7_fewest 44) rfl rfl trivial ?_)
    refine zv_V1 (bX7_fewest 44) rfl rfl rfl rfl rfl rfl rfl ⟨rfl, rfl, rfl⟩ ⟨by decide, by decide⟩ ⟨Nat.zero_le _, Nat.zero_le _⟩ (mKeepable f o A J (by omega) hT0 40 _ (pt_of hT0 (Nat.zero_le _) hn)) ?_
    rintro _ _ ⟨rfl, v, rfl⟩
    iterate 3 (refine zv_step (bX7_fewest 44) rfl rfl trivial ?_)
    refine zv_V1 (bX7_fewest 44) rfl rfl rfl rfl rfl rfl rfl ⟨rfl, rfl, rfl⟩ ⟨by decide, by decide⟩ ⟨Nat.zero_le _, Nat.zero_le _⟩ (mRight f o A J (by omega) hT0 40 _ (pt_of hT0 (Nat.zero_le _) hn)) ?_
    rintro _ _ ⟨rfl, rfl | rfl⟩
    · skip
      iterate 1 (refine zv_step (bX7_fewest 44) rfl rfl trivial ?_)
      refine zv_iff (by decide) ?_
      iterate 3 (refine zv_step (bX7_fewest 44) rfl rfl trivial ?_)
      refine zv_ifb (fun h27 => ?_) (fun h27 => ?_)
      · iterate 5 (refine zv_step (bX7_fewest 44) rfl rfl trivial ?_)
        refine zv_world (show _ = wR f o (updA A 15 (A 15)) J from rfl) ?_
        refine zv_locals (l := [(4, .int (Int32.ofInt 0)), (3, .int (o 10)), (2, .int v), (0, .ref 76), (1, .int (nI n))]) (l' := [(4, .int (Int32.ofInt 0)), (3, .int (o 10)), (2, .int v), (0, .ref 76), (1, .int (nI n))]) (fun q h => h) ?_
        rw [ho10]
        exact fewK f o A J hbf hu hT0 hB0 hn ho10 hw h27 bf 0 (A 15) (by omega) (fun i hi => absurd hi (by omega)) rfl
      · iterate 2 (refine zv_step (bX7_fewest 44) rfl rfl trivial ?_)
        refine zv_V1 (bX7_fewest 44) rfl rfl rfl rfl rfl rfl rfl ⟨rfl, rfl, rfl⟩ ⟨by decide, by decide⟩ ⟨Nat.zero_le _, Nat.zero_le _⟩ (mRight f o A J (by omega) hT0 40 _ (pt_of hT0 (Nat.zero_le _) hn)) ?_
        rintro _ _ ⟨rfl, rfl | rfl⟩
        · skip
          iterate 1 (refine zv_step (bX7_fewest 44) rfl rfl trivial ?_)
          refine zv_iff (by decide) ?_
          iterate 2 (refine zv_step (bX7_fewest 44) rfl rfl trivial ?_)
          exact zv_iret (bX7_fewest 44) rfl (Or.inl rfl) (Nat.zero_le _) (Nat.zero_le _) ⟨o, A, J, _, rfl, rfl, ⟨bf, hbf, ho10, hw⟩, fun _ _ _ _ => rfl, fun _ _ _ _ => rfl⟩
        · skip
          iterate 1 (refine zv_step (bX7_fewest 44) rfl rfl trivial ?_)
          refine zv_ift (by decide) ?_
          iterate 1 (refine zv_step (bX7_fewest 44) rfl rfl trivial ?_)
          exact zv_iret (bX7_fewest 44) rfl (Or.inl rfl) (Nat.zero_le _) (Nat.zero_le _) ⟨o, A, J, _, rfl, rfl, ⟨bf, hbf, ho10, hw⟩, fun _ _ _ _ => rfl, fun _ _ _ _ => rfl⟩
    · skip
      iterate 1 (refine zv_step (bX7_fewest 44) rfl rfl trivial ?_)
      refine zv_ift (by decide) ?_
      iterate 2 (refine zv_step (bX7_fewest 44) rfl rfl trivial ?_)
      refine zv_V1 (bX7_fewest 44) rfl rfl rfl rfl rfl rfl rfl ⟨rfl, rfl, rfl⟩ ⟨by decide, by decide⟩ ⟨Nat.zero_le _, Nat.zero_le _⟩ (mRight f o A J (by omega) hT0 40 _ (pt_of hT0 (Nat.zero_le _) hn)) ?_
      rintro _ _ ⟨rfl, rfl | rfl⟩
      · skip
        iterate 1 (refine zv_step (bX7_fewest 44) rfl rfl trivial ?_)
        refine zv_iff (by decide) ?_
        iterate 2 (refine zv_step (bX7_fewest 44) rfl rfl trivial ?_)
        exact zv_iret (bX7_fewest 44) rfl (Or.inl rfl) (Nat.zero_le _) (Nat.zero_le _) ⟨o, A, J, _, rfl, rfl, ⟨bf, hbf, ho10, hw⟩, fun _ _ _ _ => rfl, fun _ _ _ _ => rfl⟩
      · skip
        iterate 1 (refine zv_step (bX7_fewest 44) rfl rfl trivial ?_)
        refine zv_ift (by decide) ?_
        iterate 1 (refine zv_step (bX7_fewest 44) rfl rfl trivial ?_)
        exact zv_iret (bX7_fewest 44) rfl (Or.inl rfl) (Nat.zero_le _) (Nat.zero_le _) ⟨o, A, J, _, rfl, rfl, ⟨bf, hbf, ho10, hw⟩, fun _ _ _ _ => rfl, fun _ _ _ _ => rfl⟩
  · skip
    iterate 1 (refine zv_step (bX7_fewest 44) rfl rfl trivial ?_)
    refine zv_iff (by decide) ?_
    iterate 1 (refine zv_step (bX7_fewest 44) rfl rfl trivial ?_)
    exact zv_iret (bX7_fewest 44) rfl (Or.inl rfl) (Nat.zero_le _) (Nat.zero_le _) ⟨o, A, J, _, rfl, rfl, ⟨bf, hbf, ho10, hw⟩, fun _ _ _ _ => rfl, fun _ _ _ _ => rfl⟩
