section
set_option maxRecDepth 100000 in
theorem pc_le : ∀ N, N ≤ 8 → ∀ w, w < 2 ^ N → pcL w 8 ≤ N := by decide +kernel
/-- what fewest answers for a NODE that it tries: the fewest words that leave no doubt, or -2 and THE EAR as before -/
def fwO (A0 : Nat → Nat → Int32) (n N bf : Nat) (o' : Nat → Int32) (A' : Nat → Nat → Int32) (R : Int32) : Prop :=
  (∃ w, w < 2 ^ N ∧ gdW A0 n N w ∧ (∀ w', w' < 2 ^ N → gdW A0 n N w' → pcL w 8 ≤ pcL w' 8) ∧ R = nI (wdF A0 (btN w N) 40 (nI n) 0).length ∧ o' 10 = nI (wdF A0 (btN w N) 40 (nI n) 0).length ∧ hasW (A' 8) (wdF A0 (btN w N) 40 (nI n) 0)) ∨
  ((∀ w, w < 2 ^ N → ¬ gdW A0 n N w) ∧ R = c8 (-2) ∧ o' 10 = nI bf ∧ ∀ i, i < bf → A' 8 i = A0 8 i)
set_option maxHeartbeats 1000000 in
set_option maxRecDepth 20000 in
theorem fewRX (f : Nat → zC) (o : Nat → Int32) (A : Nat → Nat → Int32) (J : Nat → Nat → Int64) {o0 : Nat → Int32} {A0 : Nat → Nat → Int32} {bf u n N : Nat} (hbf : bf ≤ 20) (hF : fS o0 A0 bf o A) (h15 : ∀ i, i < bf → A 15 i = A0 8 i) (hno : ∀ w, w < 2 ^ N → ¬ gdW A0 n N w) {n0 : Nat} : ∀ (c i : Nat), i + c = bf → ∀ {x4 : Int32}, x4 = nI i → zV (zMo 44 zX7_fewest) false n0 0 0 141 [(4, .int x4), (3, .int (nI bf)), (2, .int (nI N)), (0, .ref 76), (1, .int (nI n))] [] (wR f o (updA A 8 (cpR (A 8) (A 15) i)) J) (fun r w' => ∃ (o' : Nat → Int32) (A' : Nat → Nat → Int32) (J' : Nat → Nat → Int64) (R : Int32), r = some (.int R) ∧ w' = wR f o' A' J' ∧ fwX o0 A0 o' A' ∧ fwO A0 n N bf o' A' R) := by
  intro c
  induction c with
  | zero =>
    intro i hi x4 e4
    subst e4
    iterate 3 (refine zv_step (bX7_fewest 44) rfl rfl trivial ?_)
    refine zv_ift (nI_le (by omega) (by omega)) ?_
    iterate 4 (refine zv_step (bX7_fewest 44) rfl rfl trivial ?_)
    exact zv_iret (bX7_fewest 44) rfl (Or.inl rfl) (Nat.zero_le _) (Nat.zero_le _) ⟨upd o 10 (nI bf), updA A 8 (cpR (A 8) (A 15) i), J, _, rfl, rfl, ⟨⟨bf, hbf, upd_self _ _ _, by rw [updA_self, show i = bf by omega]; exact fun j hj => by rw [show cpR (A 8) (A 15) bf j = A 15 j from if_pos hj]; exact hF.2.2.1 j hj⟩, fun j a b c => (upd_ne _ _ a).trans (hF.1 j a b c), fun r a b c => (updA_ne _ _ a).trans (hF.2.1 r a b c)⟩, Or.inr ⟨hno, rfl, upd_self _ _ _, fun j hj => by rw [updA_self, show i = bf by omega, show cpR (A 8) (A 15) bf j = A 15 j from if_pos hj]; exact h15 j hj⟩⟩
  | succ c ih =>
    intro i hi x4 e4
    subst e4
    iterate 3 (refine zv_step (bX7_fewest 44) rfl rfl trivial ?_)
    refine zv_iff (fun h => absurd ((nI_leI (by omega) (by omega)).mp h) (by omega)) ?_
    iterate 6 (refine zv_step (bX7_fewest 44) rfl rfl trivial ?_)
    refine zv_iale (bX7_fewest 44) rfl rfl (vp_in_nI (by omega) (by decide)) (show (updA A 8 (cpR (A 8) (A 15) i)) 15 (nI i).toNatClampNeg = A 15 i by rw [updA_ne _ _ (by decide), nI_clamp (by omega)]) ?_
    refine zv_step (bX7_fewest 44) rfl rfl (vp_in_nI (by omega) (by decide)) ?_
    iterate 2 (refine zv_step (bX7_fewest 44) rfl rfl trivial ?_)
    refine zv_world (show _ = wR f o (updA A 8 (cpR (A 8) (A 15) (i + 1))) J from by rw [← cpR_s, show upd (cpR (A 8) (A 15) i) i (A 15 i) = upd (cpR (A 8) (A 15) i) (nI i).toNatClampNeg (A 15 i) by rw [nI_clamp (by omega)]]; rfl) ?_
    exact ih (i + 1) (by omega) (nI_1 i)
set_option maxHeartbeats 1000000 in
set_option maxRecDepth 20000 in
theorem fewWX (f : Nat → zC) {o0 : Nat → Int32} {A0 : Nat → Nat → Int32} {bf u n N : Nat} (hbf : bf ≤ 20) (hu : u ≤ 120) (hT0 : tbI 0 u A0) (hz0 : kp0 A0) (hn : n < u) (hr0 : rtW A0 40 (nI n)) (hN : N ≤ 8) (hkb : kbW A0 40 (nI n) = N) {c n0 : Nat} (hc8 : c ≤ 9) (hge : (∀ w', w' < 2 ^ N → gdW A0 n N w' → c ≤ pcL w' 8)) (kk : ∀ (o : Nat → Int32) (A : Nat → Nat → Int32) (J : Nat → Nat → Int64), fS o0 A0 bf o A → (∀ i, i < bf → A 15 i = A0 8 i) → (∀ w', w' < 2 ^ N → gdW A0 n N w' → c + 1 ≤ pcL w' 8) → zV (zMo 44 zX7_fewest) false n0 0 0 132 [(4, .int (nI c)), (3, .int (nI bf)), (2, .int (nI N)), (0, .ref 76), (1, .int (nI n))] [] (wR f o A J) (fun r w' => ∃ (o' : Nat → Int32) (A' : Nat → Nat → Int32) (J' : Nat → Nat → Int64) (R : Int32), r = some (.int R) ∧ w' = wR f o' A' J' ∧ fwX o0 A0 o' A' ∧ fwO A0 n N bf o' A' R)) : ∀ (v w : Nat) (o : Nat → Int32) (A : Nat → Nat → Int32) (J : Nat → Nat → Int64), fS o0 A0 bf o A → (∀ i, i < bf → A 15 i = A0 8 i) → w + v = 2 ^ N → w ≤ 2 ^ N → (∀ w', w' < w → pcL w' 8 = c → ¬ gdW A0 n N w') → ∀ {y : Int32}, y = nI w → zV (zMo 44 zX7_fewest) false n0 0 0 92 [(5, .int y), (4, .int (nI c)), (3, .int (nI bf)), (2, .int (nI N)), (0, .ref 76), (1, .int (nI n))] [] (wR f o A J) (fun r w' => ∃ (o' : Nat → Int32) (A' : Nat → Nat → Int32) (J' : Nat → Nat → Int64) (R : Int32), r = some (.int R) ∧ w' = wR f o' A' J' ∧ fwX o0 A0 o' A' ∧ fwO A0 n N bf o' A' R) := by
  have h2N : 2 ^ N ≤ 256 := Nat.le_trans (Nat.pow_le_pow_right (by decide) hN) (by decide)
  intro v
  induction v with
  | zero =>
    intro w o A J hF h15 hv hwl hw y ey
    subst ey
    iterate 5 (refine zv_step (bX7_fewest 44) rfl rfl trivial ?_)
    refine zv_ift (show (Int32.ofInt 1 <<< (nI N &&& 31)) ≤ nI w by rw [show Int32.ofInt 1 <<< (nI N &&& 31) = nI (2 ^ N) from shl_k N (by omega), nI_leI (by omega) (by omega)]; omega) ?_
    refine zv_locals (l := [(5, .int (nI w)), (4, .int (nI c)), (3, .int (nI bf)), (2, .int (nI N)), (0, .ref 76), (1, .int (nI n))]) (l' := [(4, .int (nI c)), (3, .int (nI bf)), (2, .int (nI N)), (0, .ref 76), (1, .int (nI n))]) ?_ (kk o A J hF h15 (fun w' h1 h2 => by
      have a1 := hge w' h1 h2
      have a2 : ¬ pcL w' 8 = c := fun e => hw w' (by omega) e h2
      omega))
    simp
  | succ v ih =>
    intro w o A J hF h15 hv hwl hw y ey
    subst ey
    iterate 5 (refine zv_step (bX7_fewest 44) rfl rfl trivial ?_)
    refine zv_iff (show ¬ (Int32.ofInt 1 <<< (nI N &&& 31)) ≤ nI w by rw [show Int32.ofInt 1 <<< (nI N &&& 31) = nI (2 ^ N) from shl_k N (by omega), nI_leI (by omega) (by omega)]; omega) ?_
    iterate 1 (refine zv_step (bX7_fewest 44) rfl rfl trivial ?_)
    refine zv_S1 (bX7_fewest 44) rfl rfl rfl rfl ⟨rfl, rfl, rfl⟩ ⟨by decide, by decide⟩ ⟨Nat.zero_le _, Nat.zero_le _⟩ (mBitsX _ (show w < 256 by omega) rfl) ?_
    rintro _ _ ⟨rfl, rfl⟩
    iterate 2 (refine zv_step (bX7_fewest 44) rfl rfl trivial ?_)
    refine zv_ifb (fun h107 => ?_) (fun h107 => ?_)
    · have q107 : ¬ pcL w 8 = c := fun e => h107 (by rw [e])
      iterate 2 (refine zv_step (bX7_fewest 44) rfl rfl trivial ?_)
      exact ih (w + 1) o A J hF h15 (by omega) (by omega) (fun w' hw' e => by
        by_cases q : w' = w
        · subst q
          exact absurd e q107
        · exact hw w' (by omega) e) (nI_1 w)
    · have q107 : pcL w 8 = c := (nI_eq (by have := pc_le N hN w (by omega); omega) (by omega)).mp (Decidable.not_not.mp h107)
      iterate 4 (refine zv_step (bX7_fewest 44) rfl rfl trivial ?_)
      refine zv_V3 (bX7_fewest 44) rfl rfl rfl rfl rfl rfl rfl ⟨rfl, rfl, rfl⟩ ⟨by decide, by decide⟩ ⟨Nat.zero_le _, Nat.zero_le _⟩ (mIsOnlyX f o A J hu hT0 hz0 hn hr0 (w := w) (by omega) hN hkb hF rfl rfl) ?_
      rintro _ _ ⟨o1, A1, J1, rfl, hF1, h15b, ⟨g1, rfl, g2, g3⟩ | ⟨g1, rfl⟩⟩
      · skip
        iterate 1 (refine zv_step (bX7_fewest 44) rfl rfl trivial ?_)
        refine zv_iff (by decide) ?_
        iterate 2 (refine zv_step (bX7_fewest 44) rfl rfl trivial ?_)
        exact zv_iret (bX7_fewest 44) rfl (Or.inl rfl) (Nat.zero_le _) (Nat.zero_le _) ⟨o1, A1, J1, _, congrArg (fun v => some (Value.int v)) g2, rfl, fwX_S hF1, Or.inl ⟨w, by omega, g1, fun w' h1 h2 => by rw [q107]; exact hge w' h1 h2, rfl, g2, g3⟩⟩
      · skip
        iterate 1 (refine zv_step (bX7_fewest 44) rfl rfl trivial ?_)
        refine zv_ift (by decide) ?_
        iterate 2 (refine zv_step (bX7_fewest 44) rfl rfl trivial ?_)
        exact ih (w + 1) o1 A1 J1 hF1 (fun i hi => by rw [h15b]; exact h15 i hi) (by omega) (by omega) (fun w' hw' e => by
          by_cases q : w' = w
          · subst q
            exact g1
          · exact hw w' (by omega) e) (nI_1 w)
set_option maxHeartbeats 1000000 in
set_option maxRecDepth 20000 in
theorem fewCX (f : Nat → zC) {o0 : Nat → Int32} {A0 : Nat → Nat → Int32} {bf u n N : Nat} (hbf : bf ≤ 20) (hu : u ≤ 120) (hT0 : tbI 0 u A0) (hz0 : kp0 A0) (hn : n < u) (hr0 : rtW A0 40 (nI n)) (hN : N ≤ 8) (hkb : kbW A0 40 (nI n) = N) {n0 : Nat} : ∀ (v c : Nat), c + v = N + 1 → ∀ (o : Nat → Int32) (A : Nat → Nat → Int32) (J : Nat → Nat → Int64), fS o0 A0 bf o A → (∀ i, i < bf → A 15 i = A0 8 i) → (∀ w', w' < 2 ^ N → gdW A0 n N w' → c ≤ pcL w' 8) → ∀ {x4 : Int32}, x4 = nI c → zV (zMo 44 zX7_fewest) false n0 0 0 83 [(4, .int x4), (3, .int (nI bf)), (2, .int (nI N)), (0, .ref 76), (1, .int (nI n))] [] (wR f o A J) (fun r w' => ∃ (o' : Nat → Int32) (A' : Nat → Nat → Int32) (J' : Nat → Nat → Int64) (R : Int32), r = some (.int R) ∧ w' = wR f o' A' J' ∧ fwX o0 A0 o' A' ∧ fwO A0 n N bf o' A' R) := by
  intro v
  induction v with
  | zero =>
    intro c hc o A J hF h15 hge x4 e4
    subst e4
    iterate 3 (refine zv_step (bX7_fewest 44) rfl rfl trivial ?_)
    refine zv_ift (show nI N < nI c from nI_lt (by omega) (by omega)) ?_
    iterate 2 (refine zv_step (bX7_fewest 44) rfl rfl trivial ?_)
    refine zv_world (show _ = wR f o (updA A 8 (cpR (A 8) (A 15) 0)) J from by rw [cpR_0, updA_same A 8]) ?_
    refine zv_locals (l := [(4, .int (Int32.ofInt 0)), (3, .int (nI bf)), (2, .int (nI N)), (0, .ref 76), (1, .int (nI n))]) (l' := [(4, .int (Int32.ofInt 0)), (3, .int (nI bf)), (2, .int (nI N)), (0, .ref 76), (1, .int (nI n))]) (fun q h => h) (fewRX f o A J (u := 0) hbf hF h15 (fun w hw g => by have a1 := hge w hw g; have a2 := pc_le N hN w hw; omega) bf 0 (by omega) rfl)
  | succ v ih =>
    intro c hc o A J hF h15 hge x4 e4
    subst e4
    iterate 3 (refine zv_step (bX7_fewest 44) rfl rfl trivial ?_)
    refine zv_iff (show ¬ nI N < nI c from nI_nlt (by omega) (by omega)) ?_
    iterate 2 (refine zv_step (bX7_fewest 44) rfl rfl trivial ?_)
    refine zv_locals (l := [(5, .int (Int32.ofInt 0)), (4, .int (nI c)), (3, .int (nI bf)), (2, .int (nI N)), (0, .ref 76), (1, .int (nI n))]) (l' := [(5, .int (Int32.ofInt 0)), (4, .int (nI c)), (3, .int (nI bf)), (2, .int (nI N)), (0, .ref 76), (1, .int (nI n))]) (fun q h => h) (fewWX f hbf hu hT0 hz0 hn hr0 hN hkb (by omega) hge (fun o A J hF h15 hge2 => ?_) (2 ^ N) 0 o A J hF h15 (by omega) (Nat.zero_le _) (fun w' h => absurd h (Nat.not_lt_zero _)) rfl)
    iterate 2 (refine zv_step (bX7_fewest 44) rfl rfl trivial ?_)
    exact ih (c + 1) (by omega) o A J hF h15 hge2 (nI_1 c)
set_option maxHeartbeats 1000000 in
set_option maxRecDepth 20000 in
theorem fewKX (f : Nat → zC) (o : Nat → Int32) (A : Nat → Nat → Int32) (J : Nat → Nat → Int64) {bf u n N : Nat} (hbf : bf ≤ 20) (hu : u ≤ 120) (hT0 : tbI 0 u A) (hz0 : kp0 A) (hn : n < u) (hr0 : rtW A 40 (nI n)) (hN : N ≤ 8) (hkb : kbW A 40 (nI n) = N) (ho10 : o 10 = nI bf) (hw : nnW bf (A 8)) {n0 : Nat} : ∀ (c i : Nat), i + c = bf → ∀ {x4 : Int32}, x4 = nI i → zV (zMo 44 zX7_fewest) false n0 0 0 54 [(4, .int x4), (3, .int (nI bf)), (2, .int (nI N)), (0, .ref 76), (1, .int (nI n))] [] (wR f o (updA A 15 (cpR (A 15) (A 8) i)) J) (fun r w' => ∃ (o' : Nat → Int32) (A' : Nat → Nat → Int32) (J' : Nat → Nat → Int64) (R : Int32), r = some (.int R) ∧ w' = wR f o' A' J' ∧ fwX o A o' A' ∧ fwO A n N bf o' A' R) := by
  intro c
  induction c with
  | zero =>
    intro i hi x4 e4
    subst e4
    iterate 3 (refine zv_step (bX7_fewest 44) rfl rfl trivial ?_)
    refine zv_ift (nI_le (by omega) (by omega)) ?_
    iterate 2 (refine zv_step (bX7_fewest 44) rfl rfl trivial ?_)
    refine zv_locals (l := [(4, .int (Int32.ofInt 0)), (3, .int (nI bf)), (2, .int (nI N)), (0, .ref 76), (1, .int (nI n))]) (l' := [(4, .int (Int32.ofInt 0)), (3, .int (nI bf)), (2, .int (nI N)), (0, .ref 76), (1, .int (nI n))]) (fun q h => h) (fewCX f (o0 := o) (A0 := A) hbf hu hT0 hz0 hn hr0 hN hkb (N + 1) 0 (by omega) o (updA A 15 (cpR (A 15) (A 8) i)) J ⟨fun _ _ _ _ => rfl, fun r a b c => updA_ne _ _ c, by rw [updA_self, show i = bf by omega]; exact fun j hj => by rw [show cpR (A 15) (A 8) bf j = A 8 j from if_pos hj]; exact hw j hj, bf, hbf, ho10, by rw [updA_ne _ _ (by decide)]; exact hw⟩ (fun j hj => by rw [updA_self]; exact if_pos (by omega)) (fun _ _ _ => Nat.zero_le _) rfl)
  | succ c ih =>
    intro i hi x4 e4
    subst e4
    iterate 3 (refine zv_step (bX7_fewest 44) rfl rfl trivial ?_)
    refine zv_iff (fun h => absurd ((nI_leI (by omega) (by omega)).mp h) (by omega)) ?_
    iterate 6 (refine zv_step (bX7_fewest 44) rfl rfl trivial ?_)
    refine zv_iale (bX7_fewest 44) rfl rfl (vp_in_nI (by omega) (by decide)) (show (updA A 15 (cpR (A 15) (A 8) i)) 8 (nI i).toNatClampNeg = A 8 i by rw [updA_ne _ _ (by decide), nI_clamp (by omega)]) ?_
    refine zv_step (bX7_fewest 44) rfl rfl (vp_in_nI (by omega) (by decide)) ?_
    iterate 2 (refine zv_step (bX7_fewest 44) rfl rfl trivial ?_)
    refine zv_world (show _ = wR f o (updA A 15 (cpR (A 15) (A 8) (i + 1))) J from by rw [← cpR_s, show upd (cpR (A 15) (A 8) i) i (A 8 i) = upd (cpR (A 15) (A 8) i) (nI i).toNatClampNeg (A 8 i) by rw [nI_clamp (by omega)]]; rfl) ?_
    exact ih (i + 1) (by omega) (nI_1 i)
/-- what fewest answers, and what it leaves, where THE EAR had bf words -/
def fwR (A : Nat → Nat → Int32) (u bf : Nat) (x : Int32) (o' : Nat → Int32) (A' : Nat → Nat → Int32) (R : Int32) (same : Prop) : Prop :=
  (R = Int32.ofInt (-1) ∧ ¬ isN u x ∧ same) ∨ ∃ n, n < u ∧ x = nI n ∧ ((R = c8 (-3) ∧ ¬ rtW A 40 (nI n) ∧ same) ∨ (rtW A 40 (nI n) ∧ ((R = c8 (-5) ∧ 8 < kbW A 40 (nI n) ∧ same) ∨ (kbW A 40 (nI n) ≤ 8 ∧ fwO A n (kbW A 40 (nI n)) bf o' A' R))))
theorem kbW_le {u : Nat} (hu : u ≤ 450) {A : Nat → Nat → Int32} (hT : tbI 0 u A) : ∀ (z n : Nat), n < u → szN A n ≤ z → kbW A z (nI n) ≤ szN A n
  | 0, n, hn, hz => by have := (rN_sz (hT n (Nat.zero_le _) hn)).1; omega
  | z + 1, n, hn, hz => by
    obtain ⟨k, h0, hk, hs, h40, hv⟩ := rN_val (hT n (Nat.zero_le _) hn)
    rw [kbW_nI (by omega) hk h0]
    have hm : (if mayN k = true then 1 else 0) ≤ 1 := by split <;> omega
    rcases hs with ⟨k1, h2, h3, es⟩ | ⟨k1, k6, c, d, h2, la, hc, h3, lb, hd, es⟩ | ⟨k1, c, h2, la, hc, h3, es⟩
    · rw [h2, h3, kbW_m2]
      omega
    · rw [h2, h3]
      have := kbW_le hu hT z c (by omega) (by omega)
      have := kbW_le hu hT z d (by omega) (by omega)
      omega
    · rw [h2, h3, kbW_m2]
      have := kbW_le hu hT z c (by omega) (by omega)
      omega
set_option maxHeartbeats 1000000 in
set_option maxRecDepth 20000 in
theorem mFewestX (f : Nat → zC) (o : Nat → Int32) (A : Nat → Nat → Int32) (J : Nat → Nat → Int64) {u : Nat} (hu : u ≤ 120) (ho : o 0 = nI u) (hT0 : tbI 0 u A) (hz0 : kp0 A) {bf : Nat} (hbf : bf ≤ 20) (hw : nnW bf (A 8)) (ho10 : o 10 = nI bf) (x : Int32) : zK 44 zX7_fewest [.ref 76, .int x] (wR f o A J) (fun r w' => ∃ (o' : Nat → Int32) (A' : Nat → Nat → Int32) (J' : Nat → Nat → Int64) (R : Int32), r = some (.int R) ∧ w' = wR f o' A' J' ∧ fwX o A o' A' ∧ fwR A u bf x o' A' R (o' = o ∧ A' = A)) := by
  refine zK_of qX7_fewest (by decide +kernel) rfl ?_
  iterate 2 (refine zv_step (bX7_fewest 44) rfl rfl trivial ?_)
  refine zv_V1 (bX7_fewest 44) rfl rfl rfl rfl rfl rfl rfl ⟨rfl, rfl, rfl⟩ ⟨by decide, by decide⟩ ⟨Nat.zero_le _, Nat.zero_le _⟩ (mIsNode f o A J hu ho _) ?_
  rintro _ _ ⟨rfl, ⟨g1, rfl⟩ | ⟨g1, rfl⟩⟩
  · obtain ⟨n, hn, rfl⟩ := nd_of (by omega) g1
    iterate 1 (refine zv_step (bX7_fewest 44) rfl rfl trivial ?_)
    refine zv_ift (by decide) ?_
    iterate 2 (refine zv_step (bX7_fewest 44) rfl rfl trivial ?_)
    refine zv_V1 (bX7_fewest 44) rfl rfl rfl rfl rfl rfl rfl ⟨rfl, rfl, rfl⟩ ⟨by decide, by decide⟩ ⟨Nat.zero_le _, Nat.zero_le _⟩ (mKeepableX f o A J (by omega) hT0 40 _ (pt_of hT0 (Nat.zero_le _) hn)) ?_
    rintro _ _ ⟨rfl, rfl⟩
    have hkl := kbW_le (by omega) hT0 40 n hn (rN_sz (hT0 n (Nat.zero_le _) hn)).2.1
    have hsz := (rN_sz (hT0 n (Nat.zero_le _) hn)).2.1
    iterate 3 (refine zv_step (bX7_fewest 44) rfl rfl trivial ?_)
    refine zv_V1 (bX7_fewest 44) rfl rfl rfl rfl rfl rfl rfl ⟨rfl, rfl, rfl⟩ ⟨by decide, by decide⟩ ⟨Nat.zero_le _, Nat.zero_le _⟩ (mRightX f o A J (by omega) hT0 40 _ (pt_of hT0 (Nat.zero_le _) hn)) ?_
    rintro _ _ ⟨rfl, ⟨g2, rfl⟩ | ⟨g2, rfl⟩⟩
    · skip
      iterate 1 (refine zv_step (bX7_fewest 44) rfl rfl trivial ?_)
      refine zv_iff (by decide) ?_
      iterate 3 (refine zv_step (bX7_fewest 44) rfl rfl trivial ?_)
      refine zv_ifb (fun h27 => ?_) (fun h27 => ?_)
      · have q27 : kbW A 40 (nI n) ≤ 8 := by
          have h9 : nI (kbW A 40 (nI n)) ≤ nI 8 := h27
          rwa [nI_leI (by omega) (by decide)] at h9
        iterate 5 (refine zv_step (bX7_fewest 44) rfl rfl trivial ?_)
        refine zv_world (show _ = wR f o (updA A 15 (cpR (A 15) (A 8) 0)) J from by rw [cpR_0, updA_same A 15]) ?_
        refine zv_locals (l := [(4, .int (Int32.ofInt 0)), (3, .int (o 10)), (2, .int (nI (kbW A 40 (nI n)))), (0, .ref 76), (1, .int (nI n))]) (l' := [(4, .int (Int32.ofInt 0)), (3, .int (o 10)), (2, .int (nI (kbW A 40 (nI n)))), (0, .ref 76), (1, .int (nI n))]) (fun q h => h) ?_
        rw [ho10]
        refine zv_weak ?_ (fewKX f o A J hbf hu hT0 hz0 hn g2 q27 rfl ho10 hw bf 0 (by omega) rfl)
        rintro r w ⟨o', A', J', R, e1, e2, e3, e4⟩
        exact ⟨o', A', J', R, e1, e2, e3, Or.inr ⟨n, hn, rfl, Or.inr ⟨g2, Or.inr ⟨q27, e4⟩⟩⟩⟩
      · have q27 : 8 < kbW A 40 (nI n) := by
          have h9 : ¬ nI (kbW A 40 (nI n)) ≤ nI 8 := h27
          rw [nI_leI (by omega) (by decide)] at h9
          omega
        iterate 2 (refine zv_step (bX7_fewest 44) rfl rfl trivial ?_)
        refine zv_V1 (bX7_fewest 44) rfl rfl rfl rfl rfl rfl rfl ⟨rfl, rfl, rfl⟩ ⟨by decide, by decide⟩ ⟨Nat.zero_le _, Nat.zero_le _⟩ (mRightX f o A J (by omega) hT0 40 _ (pt_of hT0 (Nat.zero_le _) hn)) ?_
        rintro _ _ ⟨rfl, ⟨g3, rfl⟩ | ⟨g3, rfl⟩⟩
        · skip
          iterate 1 (refine zv_step (bX7_fewest 44) rfl rfl trivial ?_)
          refine zv_iff (by decide) ?_
          iterate 2 (refine zv_step (bX7_fewest 44) rfl rfl trivial ?_)
          exact zv_iret (bX7_fewest 44) rfl (Or.inl rfl) (Nat.zero_le _) (Nat.zero_le _) ⟨o, A, J, _, rfl, rfl, ⟨⟨bf, hbf, ho10, hw⟩, fun _ _ _ _ => rfl, fun _ _ _ _ => rfl⟩, Or.inr ⟨n, hn, rfl, Or.inr ⟨g2, Or.inl ⟨rfl, q27, rfl, rfl⟩⟩⟩⟩
        · skip
          iterate 1 (refine zv_step (bX7_fewest 44) rfl rfl trivial ?_)
          refine zv_ift (by decide) ?_
          exact absurd g2 g3
    · skip
      iterate 1 (refine zv_step (bX7_fewest 44) rfl rfl trivial ?_)
      refine zv_ift (by decide) ?_
      iterate 2 (refine zv_step (bX7_fewest 44) rfl rfl trivial ?_)
      refine zv_V1 (bX7_fewest 44) rfl rfl rfl rfl rfl rfl rfl ⟨rfl, rfl, rfl⟩ ⟨by decide, by decide⟩ ⟨Nat.zero_le _, Nat.zero_le _⟩ (mRightX f o A J (by omega) hT0 40 _ (pt_of hT0 (Nat.zero_le _) hn)) ?_
      rintro _ _ ⟨rfl, ⟨g3, rfl⟩ | ⟨g3, rfl⟩⟩
      · skip
        iterate 1 (refine zv_step (bX7_fewest 44) rfl rfl trivial ?_)
        refine zv_iff (by decide) ?_
        exact absurd g3 g2
      · skip
        iterate 1 (refine zv_step (bX7_fewest 44) rfl rfl trivial ?_)
        refine zv_ift (by decide) ?_
        iterate 1 (refine zv_step (bX7_fewest 44) rfl rfl trivial ?_)
        exact zv_iret (bX7_fewest 44) rfl (Or.inl rfl) (Nat.zero_le _) (Nat.zero_le _) ⟨o, A, J, _, rfl, rfl, ⟨⟨bf, hbf, ho10, hw⟩, fun _ _ _ _ => rfl, fun _ _ _ _ => rfl⟩, Or.inr ⟨n, hn, rfl, Or.inl ⟨rfl, g3, rfl, rfl⟩⟩⟩
  · skip
    iterate 1 (refine zv_step (bX7_fewest 44) rfl rfl trivial ?_)
    refine zv_iff (by decide) ?_
    iterate 1 (refine zv_step (bX7_fewest 44) rfl rfl trivial ?_)
    exact zv_iret (bX7_fewest 44) rfl (Or.inl rfl) (Nat.zero_le _) (Nat.zero_le _) ⟨o, A, J, _, rfl, rfl, ⟨⟨bf, hbf, ho10, hw⟩, fun _ _ _ _ => rfl, fun _ _ _ _ => rfl⟩, Or.inl ⟨rfl, fun q => g1 (by omega), rfl, rfl⟩⟩
end
section
/-! the bits of those PARTS that would leave a doubt -/
def dbB (k p : Nat) (f : Bool) : Bool := decide (((2 ≤ p ∧ p ≤ 6) ∧ ((2 ≤ k ∧ k ≤ 6) ∨ (k = 7 ∨ k = 9))) ∨ (f = true ∧ (p = 7 ∨ p = 9) ∧ (2 ≤ k ∧ k ≤ 6)))
theorem dbB_i {k p : Nat} {f : Bool} : dbB k p f = true ↔ dbN k p (f = true) := by
  unfold dbB dbN prN pxN
  rw [decide_eq_true_eq]
theorem dbN_c {k p : Nat} {f g : Prop} (h : f ↔ g) : dbN k p f ↔ dbN k p g := by
  unfold dbN
  rw [h]
theorem dbN_may {k p : Nat} {f : Prop} (h : dbN k p f) : mayN p = true := may_i (h.elim (fun q => Or.inl q.1) (fun q => Or.inr q.2.1))
def dbF (A : Nat → Nat → Int32) : Nat → Int32 → Bool → List Bool
  | 0, _, _ => []
  | z + 1, x, t => if x < 0 then [] else (if mayN (kdN A x) = true then [t] else []) ++ (dbF A z (A 2 x.toNatClampNeg) (dbB (kdN A x) (kdN A (A 2 x.toNatClampNeg)) true) ++ dbF A z (A 3 x.toNatClampNeg) (dbB (kdN A x) (kdN A (A 3 x.toNatClampNeg)) false))
theorem dbF_nI {A : Nat → Nat → Int32} {z n k : Nat} {t : Bool} (hn : n < 450) (hk : k < 10) (h0 : A 0 n = nI k) : dbF A (z + 1) (nI n) t = (if mayN k = true then [t] else []) ++ (dbF A z (A 2 n) (dbB k (kdN A (A 2 n)) true) ++ dbF A z (A 3 n) (dbB k (kdN A (A 3 n)) false)) := by
  show (if nI n < 0 then [] else (if mayN (kdN A (nI n)) = true then [t] else []) ++ (dbF A z (A 2 (nI n).toNatClampNeg) (dbB (kdN A (nI n)) (kdN A (A 2 (nI n).toNatClampNeg)) true) ++ dbF A z (A 3 (nI n).toNatClampNeg) (dbB (kdN A (nI n)) (kdN A (A 3 (nI n).toNatClampNeg)) false))) = _
  rw [if_neg (nI_pos (by omega)), nI_clamp (by omega), kdN_n hn hk h0]
theorem dbF_m2 (A : Nat → Nat → Int32) (z : Nat) (t : Bool) : dbF A z m2 t = [] := by
  cases z with
  | zero => rfl
  | succ z => exact if_pos (by decide)
theorem dbF_len {u : Nat} (hu : u ≤ 450) {A : Nat → Nat → Int32} (hT : tbI 0 u A) : ∀ (z : Nat) (x : Int32) (t : Bool), pt 0 u A z x → (dbF A z x t).length = kbW A z x
  | 0, x, t, _ => rfl
  | z + 1, x, t, h => by
    rcases h with rfl | ⟨n, rfl, hlo, hn, hz⟩
    · rw [dbF_m2, kbW_m2]
      rfl
    · obtain ⟨p2, p3⟩ := rN_parts hT hlo hn hz
      obtain ⟨k, hk, h0⟩ := rN_kd (hT n hlo hn)
      rw [dbF_nI (by omega) hk h0, kbW_nI (by omega) hk h0, List.length_append, List.length_append, dbF_len hu hT z _ _ p2, dbF_len hu hT z _ _ p3]
      split
      · show 1 + _ = _
        omega
      · show 0 + _ = _
        omega
/-- just the PARTS that would leave a doubt are KEPT -/
def DX (A : Nat → Nat → Int32) (b : Nat → Bool) : Nat → Int32 → Nat → Prop
  | 0, _, _ => True
  | z + 1, x, i => ∀ n k, x = nI n → n < 450 → k < 10 → A 0 n = nI k → (mayN (kdN A (A 2 n)) = true → (b (i1W k i) = true ↔ dbN k (kdN A (A 2 n)) True)) ∧ (mayN (kdN A (A 3 n)) = true → (b (i1W k i + kbW A z (A 2 n)) = true ↔ dbN k (kdN A (A 3 n)) False)) ∧ DX A b z (A 2 n) (i1W k i) ∧ DX A b z (A 3 n) (i1W k i + kbW A z (A 2 n))
theorem DX_DD {A : Nat → Nat → Int32} {b : Nat → Bool} : ∀ (z : Nat) (x : Int32) (i : Nat), DX A b z x i → DD A b z x i
  | 0, _, _, _ => trivial
  | z + 1, x, i, h => fun n k ex hn hk h0 => by
    obtain ⟨h1, h2, h3, h4⟩ := h n k ex hn hk h0
    exact ⟨fun d => (h1 (dbN_may d)).mpr d, fun d => (h2 (dbN_may d)).mpr d, DX_DD z _ _ h3, DX_DD z _ _ h4⟩
theorem getD_app {X Y : List Bool} {j : Nat} : (X ++ Y).getD j false = if j < X.length then X.getD j false else Y.getD (j - X.length) false := by
  rw [List.getD_eq_getElem?_getD, List.getD_eq_getElem?_getD, List.getD_eq_getElem?_getD, List.getElem?_append]
  split <;> rfl
theorem DX_of {u : Nat} (hu : u ≤ 450) {A : Nat → Nat → Int32} (hT : tbI 0 u A) {b : Nat → Bool} : ∀ (z : Nat) (x : Int32) (i : Nat) (t : Bool), pt 0 u A z x → (∀ j, j < kbW A z x → b (i + j) = (dbF A z x t).getD j false) → DX A b z x i ∧ (mayN (kdN A x) = true → z ≠ 0 → b i = t)
  | 0, x, i, t, h, hb => ⟨trivial, fun _ q => absurd rfl q⟩
  | z + 1, x, i, t, h, hb => by
    rcases h with rfl | ⟨n, rfl, hlo, hn, hz⟩
    · refine ⟨fun n k ex hn' => absurd ex (m2_nI hn'), fun q => absurd q ?_⟩
      rw [show kdN A m2 = 10 from if_pos (by decide)]
      decide
    · obtain ⟨p2, p3⟩ := rN_parts hT hlo hn hz
      obtain ⟨k, hk, h0⟩ := rN_kd (hT n hlo hn)
      have lx := dbF_len hu hT z (A 2 n) (dbB k (kdN A (A 2 n)) true) p2
      rw [kbW_nI (by omega) hk h0, dbF_nI (by omega) hk h0] at hb
      have hd : ∀ j, (if mayN k = true then 1 else 0) ≤ j → j < (if mayN k = true then 1 else 0) + kbW A z (A 2 n) + kbW A z (A 3 n) → b (i + j) = (dbF A z (A 2 n) (dbB k (kdN A (A 2 n)) true) ++ dbF A z (A 3 n) (dbB k (kdN A (A 3 n)) false)).getD (j - (if mayN k = true then 1 else 0)) false := fun j h1 h2 => by
        rw [hb j h2, getD_app]
        by_cases q : mayN k = true
        · simp only [if_pos q] at h1 ⊢
          rw [if_neg (by show ¬ j < 1; omega)]
          rfl
        · simp only [if_neg q] at h1 ⊢
          rw [if_neg (by show ¬ j < 0; omega)]
          rfl
      have hx : ∀ j, j < kbW A z (A 2 n) → b (i1W k i + j) = (dbF A z (A 2 n) (dbB k (kdN A (A 2 n)) true)).getD j false := fun j hj => by
        have := hd ((if mayN k = true then 1 else 0) + j) (by omega) (by omega)
        rw [show (if mayN k = true then 1 else 0) + j - (if mayN k = true then 1 else 0) = j by omega, getD_app, lx, if_pos hj] at this
        rw [← this]
        unfold i1W
        rw [Nat.add_assoc]
      have hy : ∀ j, j < kbW A z (A 3 n) → b (i1W k i + kbW A z (A 2 n) + j) = (dbF A z (A 3 n) (dbB k (kdN A (A 3 n)) false)).getD j false := fun j hj => by
        have := hd ((if mayN k = true then 1 else 0) + (kbW A z (A 2 n) + j)) (by omega) (by omega)
        rw [show (if mayN k = true then 1 else 0) + (kbW A z (A 2 n) + j) - (if mayN k = true then 1 else 0) = kbW A z (A 2 n) + j by omega, getD_app, lx, if_neg (show ¬ kbW A z (A 2 n) + j < kbW A z (A 2 n) by omega), show kbW A z (A 2 n) + j - kbW A z (A 2 n) = j by omega] at this
        rw [← this]
        unfold i1W
        congr 1
        omega
      obtain ⟨x1, x2⟩ := DX_of hu hT z (A 2 n) (i1W k i) _ p2 hx
      obtain ⟨y1, y2⟩ := DX_of hu hT z (A 3 n) (i1W k i + kbW A z (A 2 n)) _ p3 hy
      have zne : ∀ y, pt 0 u A z y → mayN (kdN A y) = true → z ≠ 0 := fun y hy hm hz0 => by
        subst hz0
        rw [← pt_zero hT hy, show kdN A m2 = 10 from if_pos (by decide)] at hm
        exact absurd hm (by decide)
      refine ⟨fun n' k' ex hn' hk' h0' => ?_, fun q _ => ?_⟩
      · have e1 : n = n' := (nI_eq (by omega) (by omega)).mp ex
        subst e1
        have e2 : k = k' := (nI_eq (by omega) (by omega)).mp (h0.symm.trans h0')
        subst e2
        refine ⟨fun m => ?_, fun m => ?_, x1, y1⟩
        · rw [x2 m (zne _ p2 m), dbB_i]
          exact dbN_c ⟨fun _ => trivial, fun _ => rfl⟩
        · rw [y2 m (zne _ p3 m), dbB_i]
          exact dbN_c ⟨fun q => absurd q (by decide), fun q => q.elim⟩
      · rw [kdN_n (by omega) hk h0] at q
        have := hb 0 (by rw [if_pos q]; omega)
        rw [getD_app, if_pos q] at this
        exact this
theorem dbW_i {k p : Nat} (hk : k < 10) (hp : p < 10) (fi : Bool) : dbW (nI k) (nI p) (if fi = true then Int32.ofInt 1 else Int32.ofInt 0) = 0 ↔ ¬ dbN k p (fi = true) := by
  unfold dbW dbN prN pxN
  rw [nI_toInt (by omega), nI_toInt (by omega)]
  have e1 : (2 ≤ (p : Int) ∧ (p : Int) ≤ 6) ↔ (2 ≤ p ∧ p ≤ 6) := by omega
  have e2 : (2 ≤ (k : Int) ∧ (k : Int) ≤ 6) ↔ (2 ≤ k ∧ k ≤ 6) := by omega
  have e3 : ((k : Int) = 7 ∨ (k : Int) = 9) ↔ (k = 7 ∨ k = 9) := by omega
  have e4 : ((p : Int) = 7 ∨ (p : Int) = 9) ↔ (p = 7 ∨ p = 9) := by omega
  have e5 : (¬ (if fi = true then Int32.ofInt 1 else Int32.ofInt 0) = 0) ↔ fi = true := by cases fi <;> decide
  simp only [e1, e2, e3, e4, e5]
  have n1 : ¬ Int32.ofInt 1 = 0 := by decide
  have n0 : Int32.ofInt 0 = 0 := by decide
  by_cases a : 2 ≤ p ∧ p ≤ 6
  · rw [if_pos a]
    by_cases c : (2 ≤ k ∧ k ≤ 6) ∨ (k = 7 ∨ k = 9)
    · rw [if_pos c]
      exact ⟨fun q => absurd q n1, fun q => absurd (Or.inl ⟨a, c⟩) q⟩
    · rw [if_neg c]
      exact ⟨fun _ q => q.elim (fun w => c w.2) (fun w => by omega), fun _ => n0⟩
  · rw [if_neg a]
    by_cases c : fi = true ∧ (p = 7 ∨ p = 9) ∧ (2 ≤ k ∧ k ≤ 6)
    · rw [if_pos c]
      exact ⟨fun q => absurd q n1, fun q => absurd (Or.inr c) q⟩
    · rw [if_neg c]
      exact ⟨fun _ q => q.elim (fun w => a w.1) c, fun _ => n0⟩
set_option maxHeartbeats 1000000 in
/-- what the class says sparingly -/
theorem tl_sp {u : Nat} (hu : u ≤ 120) {P A : Nat → Nat → Int32} (hT : tbI 0 u A) (hN : NR u P A) {kk : Int32} {b : Nat → Bool} : ∀ (z : Nat) (x : Int32) (i : Nat), pt 0 u A z x → DX A b z x i → ∀ kept : Int32, (kept = 0 ↔ ¬ (mayN (kdN A x) = true ∧ b i = true)) → tlW (nI u) kk (Int32.ofInt 1) P (z + 1) (cvI x) kept = wdF A b z x i
  | 0, x, i, h, _, kept, _ => by
    obtain rfl := pt_zero hT h
    rw [cvI_m2]
    rfl
  | z + 1, x, i, h, hD, kept, hkp => by
    rcases h with rfl | ⟨n, rfl, hlo, hn, hz⟩
    · rw [cvI_m2, wdF_m2, tlW_s, if_neg (fun q => absurd q.1 (by decide))]
    · obtain ⟨p2, p3⟩ := rN_parts hT hlo hn hz
      obtain ⟨k, h0, hk9, hs, h40, hv⟩ := rN_val (hT n hlo hn)
      obtain ⟨n1, n2, n3, n4, n5, n6, n7, n8⟩ := hN n hn
      obtain ⟨d1, d2, d3, d4⟩ := hD n k rfl (by omega) hk9 h0
      have pk : ∀ (y : Int32) (j : Nat) (fi : Bool), pt 0 u A z y → (mayN (kdN A y) = true → (b j = true ↔ dbN k (kdN A y) (fi = true))) → (pkW (nI u) kk (Int32.ofInt 1) P (nI k) (cvI y) (if fi = true then Int32.ofInt 1 else Int32.ofInt 0) = 0 ↔ ¬ (mayN (kdN A y) = true ∧ b j = true)) := fun y j fi hy hb => by
        rcases hy with rfl | ⟨m, rfl, _, hm, _⟩
        · rw [cvI_m2]
          unfold pkW
          rw [if_neg (fun q => absurd q.1 (by decide)), show kdN A m2 = 10 from if_pos (by decide)]
          exact ⟨fun _ q => absurd q.1 (by decide), fun _ => rfl⟩
        · obtain ⟨p, hp, hp0⟩ := rN_kd (hT m (Nat.zero_le _) hm)
          rw [cvI_nI (by omega), kdN_n (by omega) hp hp0] at *
          unfold pkW
          rw [if_pos (has_n hm hu), if_neg (show ¬ Int32.ofInt 1 = 0 by decide), show nC (nI m) = m from nI_clamp (by omega), (hN m hm).1, hp0, dbW_i hk9 hp]
          constructor
          · exact fun q w => q ((hb w.1).mp w.2)
          · exact fun q w => q ⟨dbN_may w, (hb (dbN_may w)).mpr w⟩
      have tT : (True ↔ (true = true)) := ⟨fun _ => rfl, fun _ => trivial⟩
      have tF : (False ↔ (false = true)) := ⟨fun q => q.elim, fun q => absurd q (by decide)⟩
      have ihx : tlW (nI u) kk (Int32.ofInt 1) P (z + 1) (cvI (A 2 n)) (pkW (nI u) kk (Int32.ofInt 1) P (nI k) (cvI (A 2 n)) (Int32.ofInt 1)) = wdF A b z (A 2 n) (i1W k i) := tl_sp hu hT hN z _ _ p2 d3 _ (pk _ _ true p2 (fun m => (d1 m).trans (dbN_c tT)))
      have ihy : tlW (nI u) kk (Int32.ofInt 1) P (z + 1) (cvI (A 3 n)) (pkW (nI u) kk (Int32.ofInt 1) P (nI k) (cvI (A 3 n)) (Int32.ofInt 0)) = wdF A b z (A 3 n) (i1W k i + kbW A z (A 2 n)) := tl_sp hu hT hN z _ _ p3 d4 _ (pk _ _ false p3 (fun m => (d2 m).trans (dbN_c tF)))
      have eco : coW P (pkW (nI u) kk (Int32.ofInt 1) P) (tlW (nI u) kk (Int32.ofInt 1) P (z + 1)) n = coF A (wdF A b z (A 2 n) (i1W k i)) (wdF A b z (A 3 n) (i1W k i + kbW A z (A 2 n))) n := by
        unfold coW coF
        rw [n1, n3, n4, h0]
        have nk : ∀ j, j < 10 → (nI k = nI j ↔ k = j) := fun j hj => nI_eq (by omega) (by omega)
        by_cases e0 : k = 0
        · subst e0
          obtain ⟨v, hv9, e⟩ := hv.1 (Or.inl rfl)
          rw [if_pos rfl, if_pos rfl, n2, e, cvI_nI (by omega)]
        · rw [if_neg (fun q => e0 ((nk 0 (by decide)).mp q)), if_neg (fun q => e0 ((nk 0 (by decide)).mp q))]
          by_cases e1 : k = 1
          · subst e1
            obtain ⟨v, hv9, e⟩ := hv.2.1 rfl
            rw [if_pos rfl, if_pos rfl, n2, e, cvI_nI (by omega)]
            exact dg_WL _
          · rw [if_neg (fun q => e1 ((nk 1 (by decide)).mp q)), if_neg (fun q => e1 ((nk 1 (by decide)).mp q))]
            by_cases e7 : k = 7
            · subst e7
              rw [if_pos rfl, if_pos rfl, ihx]
            · rw [if_neg (fun q => e7 ((nk 7 (by decide)).mp q)), if_neg (fun q => e7 ((nk 7 (by decide)).mp q))]
              by_cases e8 : k = 8
              · subst e8
                rw [if_pos rfl, if_pos rfl, ihx]
              · rw [if_neg (fun q => e8 ((nk 8 (by decide)).mp q)), if_neg (fun q => e8 ((nk 8 (by decide)).mp q))]
                by_cases e9 : k = 9
                · subst e9
                  obtain ⟨v, hv9, e⟩ := hv.1 (Or.inr rfl)
                  rw [if_pos rfl, if_pos rfl, n2, e, cvI_nI (by omega), ihx]
                · rw [if_neg (fun q => e9 ((nk 9 (by decide)).mp q)), if_neg (fun q => e9 ((nk 9 (by decide)).mp q)), ihx, ihy]
      rw [kdN_n (by omega) hk9 h0] at hkp
      rw [cvI_nI (by omega), tlW_s, if_pos (has_n hn hu), show nC (nI n) = n from nI_clamp (by omega), eco, wdF_nI (by omega) hk9 h0]
      unfold brL kpB
      by_cases q : mayN k = true ∧ b i = true
      · rw [if_neg (fun w => (hkp.mp w) q), if_pos q, if_neg (by decide)]
      · rw [if_pos (hkp.mpr q), if_neg q, if_pos rfl]
/-- bits as a number -/
theorem bits_w : ∀ (L : List Bool), ∃ w, w < 2 ^ L.length ∧ ∀ i, i < L.length → btN w L.length i = L.getD i false
  | [] => ⟨0, by decide, fun i h => absurd h (Nat.not_lt_zero _)⟩
  | x :: L => by
    obtain ⟨w, hw, hb⟩ := bits_w L
    have hp : 2 ^ (L.length + 1) = 2 ^ L.length + 2 ^ L.length := by rw [Nat.pow_succ]; omega
    refine ⟨if x = true then 2 ^ L.length + w else w, ?_, fun i hi => ?_⟩
    · rw [List.length_cons]
      split <;> omega
    · rw [List.length_cons] at hi ⊢
      unfold btN at hb ⊢
      cases i with
      | zero =>
        show Nat.testBit _ (L.length + 1 - 1) = x
        rw [Nat.add_sub_cancel]
        cases x with
        | true => rw [if_pos rfl, Nat.testBit_two_pow_add_eq, Nat.testBit_lt_two_pow hw]; rfl
        | false => rw [if_neg (by decide), Nat.testBit_lt_two_pow hw]
      | succ i =>
        show Nat.testBit _ (L.length + 1 - (i + 1 + 1)) = L.getD i false
        rw [show L.length + 1 - (i + 1 + 1) = L.length - (i + 1) by omega, ← hb i (by omega)]
        cases x with
        | true => rw [if_pos rfl, Nat.testBit_two_pow_add_gt (by omega)]
        | false => rw [if_neg (by decide)]
/-- a way that leaves no doubt keeps all these PARTS -/
theorem DX_sub {u : Nat} (hu : u ≤ 450) {A : Nat → Nat → Int32} (hT : tbI 0 u A) {b b' : Nat → Bool} : ∀ (z : Nat) (x : Int32) (i : Nat), pt 0 u A z x → DX A b z x i → DD A b' z x i → (mayN (kdN A x) = true → b i = true → b' i = true) → ∀ j, j < kbW A z x → b (i + j) = true → b' (i + j) = true
  | 0, x, i, _, _, _, _, j, hj, _ => absurd hj (Nat.not_lt_zero _)
  | z + 1, x, i, h, hX, hD, ht, j, hj, hb => by
    rcases h with rfl | ⟨n, rfl, hlo, hn, hz⟩
    · rw [kbW_m2] at hj
      omega
    · obtain ⟨p2, p3⟩ := rN_parts hT hlo hn hz
      obtain ⟨k, hk, h0⟩ := rN_kd (hT n hlo hn)
      obtain ⟨x1, x2, x3, x4⟩ := hX n k rfl (by omega) hk h0
      obtain ⟨d1, d2, d3, d4⟩ := hD n k rfl (by omega) hk h0
      rw [kbW_nI (by omega) hk h0] at hj
      rw [kdN_n (by omega) hk h0] at ht
      have ei : (i + if mayN k = true then 1 else 0) = i1W k i := rfl
      rw [ei] at d1 d2 d3 d4
      rcases Nat.lt_or_ge j (if mayN k = true then 1 else 0) with q | q
      · by_cases m : mayN k = true
        · rw [if_pos m] at q
          have : j = 0 := by omega
          subst this
          exact ht m hb
        · rw [if_neg m] at q
          omega
      · rcases Nat.lt_or_ge (j - (if mayN k = true then 1 else 0)) (kbW A z (A 2 n)) with w | w
        · have e : i + j = i1W k i + (j - (if mayN k = true then 1 else 0)) := by unfold i1W; omega
          rw [e] at hb ⊢
          exact DX_sub hu hT z _ _ p2 x3 d3 (fun m bb => d1 ((x1 m).mp bb)) _ w hb
        · have e : i + j = i1W k i + kbW A z (A 2 n) + (j - (if mayN k = true then 1 else 0) - kbW A z (A 2 n)) := by unfold i1W; omega
          rw [e] at hb ⊢
          exact DX_sub hu hT z _ _ p3 x4 d4 (fun m bb => d2 ((x2 m).mp bb)) _ (by omega) hb
theorem wdF_mono {u : Nat} (hu : u ≤ 450) {A : Nat → Nat → Int32} (hT : tbI 0 u A) {b b' : Nat → Bool} : ∀ (z : Nat) (x : Int32) (i : Nat), pt 0 u A z x → (∀ j, j < kbW A z x → b (i + j) = true → b' (i + j) = true) → (wdF A b z x i).length ≤ (wdF A b' z x i).length
  | 0, x, i, _, _ => Nat.le_refl _
  | z + 1, x, i, h, hb => by
    rcases h with rfl | ⟨n, rfl, hlo, hn, hz⟩
    · rw [wdF_m2, wdF_m2]
      exact Nat.le_refl _
    · obtain ⟨p2, p3⟩ := rN_parts hT hlo hn hz
      obtain ⟨k, h0, hk, hs, h40, hv⟩ := rN_val (hT n hlo hn)
      rw [kbW_nI (by omega) hk h0] at hb
      have ix := wdF_mono hu hT (b := b) (b' := b') z (A 2 n) (i1W k i) p2 (fun j hj q => by
        have e : i1W k i + j = i + ((if mayN k = true then 1 else 0) + j) := by unfold i1W; omega
        rw [e] at q ⊢
        exact hb _ (by omega) q)
      have iy := wdF_mono hu hT (b := b) (b' := b') z (A 3 n) (i1W k i + kbW A z (A 2 n)) p3 (fun j hj q => by
        have e : i1W k i + kbW A z (A 2 n) + j = i + ((if mayN k = true then 1 else 0) + kbW A z (A 2 n) + j) := by unfold i1W; omega
        rw [e] at q ⊢
        exact hb _ (by omega) q)
      rw [wdF_nI (by omega) hk h0, wdF_nI (by omega) hk h0, brL_len, brL_len]
      have ik : (if kpB b k i = 0 then 0 else 2) ≤ (if kpB b' k i = 0 then 0 else 2) := by
        unfold kpB
        by_cases q : mayN k = true ∧ b i = true
        · have := hb 0 (by rw [if_pos q.1]; omega) q.2
          rw [if_pos q, if_pos (show mayN k = true ∧ b' i = true from ⟨q.1, this⟩)]
          exact Nat.le_refl _
        · rw [if_neg q, if_pos rfl]
          exact Nat.zero_le _
      have ic : (coF A (wdF A b z (A 2 n) (i1W k i)) (wdF A b z (A 3 n) (i1W k i + kbW A z (A 2 n))) n).length ≤ (coF A (wdF A b' z (A 2 n) (i1W k i)) (wdF A b' z (A 3 n) (i1W k i + kbW A z (A 2 n))) n).length := by
        rcases (show k = 0 ∨ k = 1 ∨ (2 ≤ k ∧ k ≤ 6) ∨ k = 7 ∨ k = 8 ∨ k = 9 by omega) with rfl | rfl | ⟨k2, k6⟩ | rfl | rfl | rfl
        · rw [coF_0 h0, coF_0 h0]; exact Nat.le_refl _
        · rw [coF_1 h0, coF_1 h0]; exact Nat.le_refl _
        · rw [coF_2 k2 k6 h0, coF_2 k2 k6 h0, List.length_append, List.length_append, List.length_cons, List.length_cons]; omega
        · rw [coF_7 h0, coF_7 h0, List.length_cons, List.length_cons]; omega
        · rw [coF_8 h0, coF_8 h0, List.length_cons, List.length_cons, List.length_append, List.length_append]; omega
        · rw [coF_9 h0, coF_9 h0, List.length_cons, List.length_cons, List.length_cons, List.length_cons]; omega
      omega
theorem pcL_sub {w w' : Nat} : ∀ k, (∀ t, t < k → w.testBit t = true → w'.testBit t = true) → pcL w k ≤ pcL w' k ∧ (pcL w' k ≤ pcL w k → ∀ t, t < k → w.testBit t = w'.testBit t)
  | 0, _ => ⟨Nat.le_refl _, fun _ t ht => absurd ht (Nat.not_lt_zero _)⟩
  | k + 1, h => by
    obtain ⟨h1, h2⟩ := pcL_sub k (fun t ht => h t (by omega))
    have h3 := h k (Nat.lt_succ_self _)
    have e1 : pcL w (k + 1) = pcL w k + (if w.testBit k = true then 1 else 0) := rfl
    have e2 : pcL w' (k + 1) = pcL w' k + (if w'.testBit k = true then 1 else 0) := rfl
    rw [e1, e2]
    cases a : w.testBit k with
    | true =>
      have c := h3 a
      rw [c]
      simp only [if_true]
      refine ⟨by omega, fun q t ht => ?_⟩
      rcases (show t = k ∨ t < k by omega) with rfl | g
      · rw [a, c]
      · exact h2 (by omega) t g
    | false =>
      cases c : w'.testBit k with
      | true =>
        simp
        exact ⟨by omega, fun q => by omega⟩
      | false =>
        simp
        refine ⟨h1, fun q t ht => ?_⟩
        rcases (show t = k ∨ t < k by omega) with rfl | g
        · rw [a, c]
        · exact h2 q t g
/-- both say the same fewest words -/
theorem few_same {u : Nat} (hu : u ≤ 120) {P A : Nat → Nat → Int32} (hT : tbI 0 u A) (hN : NR u P A) {n : Nat} (hn : n < u) (h8 : kbW A 40 (nI n) ≤ 8) {bf : Nat} {o' : Nat → Int32} {A' : Nat → Nat → Int32} {R kk : Int32} (h : fwO A n (kbW A 40 (nI n)) bf o' A' R) : ((tlW (nI u) kk (Int32.ofInt 1) P 41 (nI n) (Int32.ofInt 0)).length ≤ 20 ∧ R = nI (tlW (nI u) kk (Int32.ofInt 1) P 41 (nI n) (Int32.ofInt 0)).length ∧ o' 10 = nI (tlW (nI u) kk (Int32.ofInt 1) P 41 (nI n) (Int32.ofInt 0)).length ∧ hasW (A' 8) (tlW (nI u) kk (Int32.ofInt 1) P 41 (nI n) (Int32.ofInt 0))) ∨ (20 < (tlW (nI u) kk (Int32.ofInt 1) P 41 (nI n) (Int32.ofInt 0)).length ∧ R = c8 (-2) ∧ o' 10 = nI bf ∧ ∀ i, i < bf → A' 8 i = A 8 i) := by
  have hp := pt_of hT (Nat.zero_le _) hn
  have hl := dbF_len (by omega) hT 40 (nI n) false hp
  obtain ⟨d, hd, hb⟩ := bits_w (dbF A 40 (nI n) false)
  rw [hl] at hd hb
  have hX := DX_of (by omega) hT (b := btN d (kbW A 40 (nI n))) 40 (nI n) 0 false hp (fun j hj => by rw [Nat.zero_add]; exact hb j hj)
  have htop : mayN (kdN A (nI n)) = true → ¬ btN d (kbW A 40 (nI n)) 0 = true := fun m => by
    rw [hX.2 m (by decide)]
    decide
  have ew : tlW (nI u) kk (Int32.ofInt 1) P 41 (nI n) (Int32.ofInt 0) = wdF A (btN d (kbW A 40 (nI n))) 40 (nI n) 0 := by
    have := tl_sp hu hT hN (kk := kk) 40 (nI n) 0 hp hX.1 (Int32.ofInt 0) ⟨fun _ q => htop q.1 q.2, fun _ => by decide⟩
    rwa [cvI_nI (by omega)] at this
  have hDD := DX_DD _ _ _ hX.1
  rw [ew]
  have sub : ∀ w', DD A (btN w' (kbW A 40 (nI n))) 40 (nI n) 0 → ∀ j, j < kbW A 40 (nI n) → btN d (kbW A 40 (nI n)) j = true → btN w' (kbW A 40 (nI n)) j = true := fun w' hw' j hj q => by
    have := DX_sub (by omega) hT (b := btN d (kbW A 40 (nI n))) (b' := btN w' (kbW A 40 (nI n))) 40 (nI n) 0 hp hX.1 hw' (fun m q => absurd q (htop m)) j hj (by rw [Nat.zero_add]; exact q)
    rwa [Nat.zero_add] at this
  rcases h with ⟨w, w1, w2, w3, w4, w5, w6⟩ | ⟨h1, h2, h3, h4⟩
  · have s := sub w w2.1
    have hlen := wdF_mono (by omega) hT (b := btN d (kbW A 40 (nI n))) (b' := btN w (kbW A 40 (nI n))) 40 (nI n) 0 hp (fun j hj q => by rw [Nat.zero_add] at q ⊢; exact s j hj q)
    have gd : gdW A n (kbW A 40 (nI n)) d := ⟨hDD, Nat.le_trans hlen w2.2⟩
    have hpc := w3 d hd gd
    have big : ∀ v, v < 2 ^ kbW A 40 (nI n) → ∀ t, kbW A 40 (nI n) ≤ t → v.testBit t = false := fun v hv t ht => Nat.testBit_lt_two_pow (Nat.lt_of_lt_of_le hv (Nat.pow_le_pow_right (by decide) ht))
    have hs := pcL_sub (w := d) (w' := w) 8 (fun t ht q => by
      rcases Nat.lt_or_ge t (kbW A 40 (nI n)) with g | g
      · have := s (kbW A 40 (nI n) - 1 - t) (by omega) (by unfold btN; rw [show kbW A 40 (nI n) - (kbW A 40 (nI n) - 1 - t + 1) = t by omega]; exact q)
        unfold btN at this
        rwa [show kbW A 40 (nI n) - (kbW A 40 (nI n) - 1 - t + 1) = t by omega] at this
      · rw [big d hd t g] at q
        exact absurd q (by decide))
    have edw : d = w := by
      apply Nat.eq_of_testBit_eq
      intro t
      rcases Nat.lt_or_ge t 8 with g | g
      · exact hs.2 hpc t g
      · rw [big d hd t (by omega), big w w1 t (by omega)]
    subst edw
    exact Or.inl ⟨gd.2, w4, w5, w6⟩
  · refine Or.inr ⟨?_, h2, h3, h4⟩
    rcases Nat.lt_or_ge 20 (wdF A (btN d (kbW A 40 (nI n))) 40 (nI n) 0).length with g | g
    · exact g
    · exact absurd ⟨hDD, g⟩ (h1 d hd)
end
section
theorem hb764 : ∀ k, k < 10 → hbW (Int16.ofInt 764).toInt32 (nI k) = nI (if mayN k = true then 1 else 0) := by decide +kernel
/-- how many could be KEPT, as the class counts it -/
theorem ch_kb {u : Nat} (hu : u ≤ 120) {P A : Nat → Nat → Int32} (hT : tbI 0 u A) (hN : NR u P A) : ∀ (z : Nat) (x : Int32), pt 0 u A z x → pvI (P 9) (cvI x) = nI (kbW A z x)
  | 0, x, h => by
    obtain rfl := pt_zero hT h
    rw [cvI_m2, pvI_m1]
    rfl
  | z + 1, x, h => by
    rcases h with rfl | ⟨n, rfl, hlo, hn, hz⟩
    · rw [cvI_m2, pvI_m1, kbW_m2]
      rfl
    · obtain ⟨p2, p3⟩ := rN_parts hT hlo hn hz
      obtain ⟨k, hk, h0⟩ := rN_kd (hT n hlo hn)
      obtain ⟨n1, n2, n3, n4, n5, n6, n7, n8⟩ := hN n hn
      rw [cvI_nI (by omega), pvI_nI _ (by omega), n8.2.1, n1, n3, n4, ch_kb hu hT hN z _ p2, ch_kb hu hT hN z _ p3, h0, hb764 k hk, kbW_nI (by omega) hk h0, nI_add, nI_add]
theorem oa0 (a b f : Int32) : (a ||| b) &&& f = 0 ↔ (a &&& f = 0 ∧ b &&& f = 0) := by
  have e : (a ||| b) &&& f = (a &&& f) ||| (b &&& f) := by
    apply Int32.toBitVec_inj.mp
    simp only [Int32.toBitVec_and, Int32.toBitVec_or]
    apply BitVec.eq_of_getLsbD_eq
    intro i hi
    simp only [BitVec.getLsbD_and, BitVec.getLsbD_or]
    cases a.toBitVec.getLsbD i <;> cases b.toBitVec.getLsbD i <;> cases f.toBitVec.getLsbD i <;> rfl
  rw [e]
  constructor
  · intro h
    have hb : (a &&& f).toBitVec ||| (b &&& f).toBitVec = 0#32 := by
      rw [← Int32.toBitVec_or, h]
      rfl
    constructor
    · apply Int32.toBitVec_inj.mp
      apply BitVec.eq_of_getLsbD_eq
      intro i hi
      have := congrArg (fun v => v.getLsbD i) hb
      simp only [BitVec.getLsbD_or, BitVec.getLsbD_zero] at this
      show _ = (0#32).getLsbD i
      rw [BitVec.getLsbD_zero]
      cases q : (a &&& f).toBitVec.getLsbD i
      · rfl
      · rw [q] at this
        simp at this
    · apply Int32.toBitVec_inj.mp
      apply BitVec.eq_of_getLsbD_eq
      intro i hi
      have := congrArg (fun v => v.getLsbD i) hb
      simp only [BitVec.getLsbD_or, BitVec.getLsbD_zero] at this
      show _ = (0#32).getLsbD i
      rw [BitVec.getLsbD_zero]
      cases q : (b &&& f).toBitVec.getLsbD i
      · rfl
      · rw [q] at this
        simp at this
  · rintro ⟨h1, h2⟩
    rw [h1, h2]
    rfl
theorem za (f : Int32) : (0 : Int32) &&& f = 0 := Int32.zero_and
theorem p2_1024 : ∀ v, v < 10 → 2 ^ v < 1024 := by decide +kernel
set_option maxRecDepth 100000 in
theorem le_n : ∀ m, m < 1024 → ∀ v, v < 10 → (2 ^ v &&& m = 0 ↔ m.testBit v = false) := by decide +kernel
set_option maxRecDepth 100000 in
theorem ca_n : ∀ m, m < 1024 → ∀ v, v < 10 → (2 ^ v &&& (1023 ^^^ m) = 0 ↔ m.testBit v = true) := by decide +kernel
set_option maxRecDepth 100000 in
theorem not_mm : ∀ m, m < 1024 → nI 1023 &&& (nI m ^^^ Int32.ofInt (-1)) = nI (1023 ^^^ m) := by decide +kernel
theorem nI_z {n : Nat} (h : n < 1024) : nI n = 0 ↔ n = 0 := nI_eq (b := 0) (by omega) (by decide)
theorem le_b : ∀ m, m < 1024 → ∀ v, v < 10 → (nI (2 ^ v) &&& nI m = 0 ↔ m.testBit v = false) := fun m hm v hv => by
  rw [nI_an2, nI_z (Nat.lt_of_le_of_lt Nat.and_le_left (p2_1024 v hv))]
  exact le_n m hm v hv
theorem ca_b : ∀ m, m < 1024 → ∀ v, v < 10 → (nI (2 ^ v) &&& (nI m ^^^ Int32.ofInt (-1)) = 0 ↔ m.testBit v = true) := fun m hm v hv => by
  rw [← nI_1023 (p2_1024 v hv), Int32.and_assoc, not_mm m hm, nI_an2, nI_z (Nat.lt_of_le_of_lt Nat.and_le_left (p2_1024 v hv))]
  exact ca_n m hm v hv
/-- whether a NODE is RIGHT, as the class tells it -/
theorem rt_bits {u : Nat} (hu : u ≤ 120) {P A : Nat → Nat → Int32} (hT : tbI 0 u A) (hN : NR u P A) {m : Nat} (hm : m < 1024) (hf : ∀ v, v < 10 → A 6 v = bt m v) : ∀ (z : Nat) (x : Int32), pt 0 u A z x → ((pvI (P 10) (cvI x) &&& nI m = 0 ∧ pvI (P 11) (cvI x) &&& (nI m ^^^ Int32.ofInt (-1)) = 0) ↔ rtW A z x)
  | 0, x, h => by
    obtain rfl := pt_zero hT h
    rw [cvI_m2, pvI_m1, pvI_m1]
    exact ⟨fun _ => trivial, fun _ => ⟨za _, za _⟩⟩
  | z + 1, x, h => by
    rcases h with rfl | ⟨n, rfl, hlo, hn, hz⟩
    · rw [cvI_m2, pvI_m1, pvI_m1]
      exact ⟨fun _ => rtW_m2 A _, fun _ => ⟨za _, za _⟩⟩
    · obtain ⟨p2, p3⟩ := rN_parts hT hlo hn hz
      obtain ⟨k, h0, hk, hs, h40, hv⟩ := rN_val (hT n hlo hn)
      obtain ⟨n1, n2, n3, n4, n5, n6, n7, n8⟩ := hN n hn
      have i2 := rt_bits hu hT hN hm hf z _ p2
      have i3 := rt_bits hu hT hN hm hf z _ p3
      rw [cvI_nI (by omega), pvI_nI _ (by omega), pvI_nI _ (by omega), n8.2.2.1, n8.2.2.2, n1, n3, n4, oa0, oa0, oa0, oa0, rtW_i (by omega), ← i2, ← i3]
      have own : (leW (A 0 n) (P 3 n) &&& nI m = 0 ∧ caW (A 0 n) (P 3 n) &&& (nI m ^^^ Int32.ofInt (-1)) = 0) ↔ rtO A n := by
        unfold leW caW rtO
        rw [h0]
        have nk : ∀ j, j < 10 → (nI k = nI j ↔ k = j) := fun j hj => nI_eq (by omega) (by omega)
        have z0 : Int32.ofInt 0 = (0 : Int32) := by decide
        by_cases e0 : k = 0
        · subst e0
          obtain ⟨v, hv9, e⟩ := hv.1 (Or.inl rfl)
          rw [if_pos (show nI 0 = 0 from rfl), if_neg (show ¬ nI 0 = c8 9 by decide), n2, e, cvI_nI (by omega), shl_k v (by omega), z0, nI_clamp (by omega), hf v (by omega)]
          constructor
          · rintro ⟨q, _⟩
            refine ⟨fun _ => ?_, fun w => absurd w (by decide)⟩
            unfold bt
            rw [(le_b m hm v (by omega)).mp q]
            rfl
          · rintro ⟨q, _⟩
            refine ⟨(le_b m hm v (by omega)).mpr ?_, za _⟩
            have := q rfl
            unfold bt at this
            cases w : m.testBit v with
            | false => rfl
            | true =>
              rw [w, if_pos rfl] at this
              exact absurd this (by decide)
        · rw [if_neg (show ¬ nI k = 0 from fun q => e0 ((nk 0 (by decide)).mp q))]
          by_cases e9 : k = 9
          · subst e9
            obtain ⟨v, hv9, e⟩ := hv.1 (Or.inr rfl)
            rw [if_pos (show nI 9 = c8 9 from rfl), n2, e, cvI_nI (by omega), shl_k v (by omega), z0, nI_clamp (by omega), hf v (by omega)]
            constructor
            · rintro ⟨_, q⟩
              refine ⟨fun w => absurd w (by decide), fun _ => ?_⟩
              unfold bt
              rw [(ca_b m hm v (by omega)).mp q]
              decide
            · rintro ⟨_, q⟩
              refine ⟨za _, (ca_b m hm v (by omega)).mpr ?_⟩
              have := q rfl
              unfold bt at this
              cases w : m.testBit v with
              | true => rfl
              | false =>
                rw [w, if_neg (by decide)] at this
                exact absurd rfl this
          · rw [if_neg (show ¬ nI k = c8 9 from fun q => e9 ((nk 9 (by decide)).mp q)), z0]
            exact ⟨fun _ => ⟨fun q => absurd ((nk 0 (by decide)).mp q) e0, fun q => absurd ((nk 9 (by decide)).mp q) e9⟩, fun _ => ⟨za _, za _⟩⟩
      rw [← own]
      constructor
      · rintro ⟨⟨⟨a1, a2⟩, a3⟩, ⟨b1, b2⟩, b3⟩
        exact ⟨⟨a1, b1⟩, ⟨a2, b2⟩, a3, b3⟩
      · rintro ⟨⟨a1, b1⟩, ⟨a2, b2⟩, a3, b3⟩
        exact ⟨⟨⟨a1, a2⟩, a3⟩, ⟨b1, b2⟩, b3⟩
end
section
/-- what speaking may change of the class -/
def spV (O : Nat → Int32) (P : Nat → Nat → Int32) (O' : Nat → Int32) (P' : Nat → Nat → Int32) : Prop := (∀ j, j < 3 ∨ 9 < j → O' j = O j) ∧ (∀ i, i ≠ 28 → i ≠ 30 → i ≠ 32 → P' i = P i)
def sameE (O : Nat → Int32) (P : Nat → Nat → Int32) (O' : Nat → Int32) (P' : Nat → Nat → Int32) : Prop := O' 9 = O 9 ∧ P' 32 = P 32
def sameM (o : Nat → Int32) (A : Nat → Nat → Int32) (o' : Nat → Int32) (A' : Nat → Nat → Int32) : Prop := o' 10 = o 10 ∧ A' 8 = A 8
/-- words that come to THE EAR, or are too many for it -/
def hsR (ws : List Int32) (e : Int32) (g : Nat → Int32) (R : Int32) (same : Prop) : Prop := (20 < ws.length ∧ R = c8 (-2) ∧ same) ∨ (ws.length ≤ 20 ∧ R = nI ws.length ∧ e = nI ws.length ∧ hasW g ws)
noncomputable abbrev spL (O : Nat → Int32) (P : Nat → Nat → Int32) (n : Nat) : List Int32 := tlW (O 1) (O 4) (Int32.ofInt 1) P 41 (nI n) (Int32.ofInt 0)
noncomputable abbrev syL (O : Nat → Int32) (P : Nat → Nat → Int32) (s n : Nat) : List Int32 := tlW (O 1) (P 75 s) (Int32.ofInt 0) P 41 (nI n) (hbW (P 75 s) (P 2 n))
def cfR (O : Nat → Int32) (P : Nat → Nat → Int32) (u : Nat) (x : Int32) (O' : Nat → Int32) (P' : Nat → Nat → Int32) (R : Int32) : Prop :=
  (R = Int32.ofInt (-1) ∧ ¬ isN u x ∧ sameE O P O' P') ∨ ∃ n, n < u ∧ x = nI n ∧ ((R = c8 (-3) ∧ ¬ (P 10 n &&& O 0 = 0 ∧ P 11 n &&& (O 0 ^^^ Int32.ofInt (-1)) = 0) ∧ sameE O P O' P') ∨ ((P 10 n &&& O 0 = 0 ∧ P 11 n &&& (O 0 ^^^ Int32.ofInt (-1)) = 0) ∧ ((R = c8 (-5) ∧ ¬ P 9 n ≤ c8 8 ∧ sameE O P O' P') ∨ (P 9 n ≤ c8 8 ∧ hsR (spL O P n) (O' 9) (P' 32) R (sameE O P O' P')))))
def clR (O : Nat → Int32) (P : Nat → Nat → Int32) (u : Nat) (x y : Int32) (O' : Nat → Int32) (P' : Nat → Nat → Int32) (R : Int32) : Prop :=
  (R = Int32.ofInt (-1) ∧ ¬ ((0 ≤ x.toInt ∧ x.toInt ≤ 7) ∧ isN u y) ∧ sameE O P O' P') ∨ ∃ s n, s < 8 ∧ n < u ∧ x = nI s ∧ y = nI n ∧ ((R = c8 (-5) ∧ 80 < (syL O P s n).length ∧ sameE O P O' P') ∨ ((syL O P s n).length ≤ 80 ∧ hsR (syL O P s n) (O' 9) (P' 32) R (sameE O P O' P')))
def mlR (o : Nat → Int32) (A : Nat → Nat → Int32) (u : Nat) (x y : Int32) (o' : Nat → Int32) (A' : Nat → Nat → Int32) (R : Int32) : Prop :=
  (R = Int32.ofInt (-1) ∧ ¬ ((0 ≤ x.toInt ∧ x.toInt ≤ 7) ∧ isN u y) ∧ sameM o A o' A') ∨ ∃ s n, s < 8 ∧ n < u ∧ x = nI s ∧ y = nI n ∧ ((R = c8 (-5) ∧ 80 < (wdW A s 40 (nI n)).length ∧ sameM o A o' A') ∨ ((wdW A s 40 (nI n)).length ≤ 80 ∧ hsR (wdW A s 40 (nI n)) (o' 10) (A' 8) R (sameM o A o' A')))
theorem has_cp {P : Nat → Nat → Int32} {ws : List Int32} {g : Nat → Int32} (h : ws.length ≤ 20) : hasW (cpR g (ap8 (P 28) 0 ws) ws.length) ws := fun t v e => by
  have ht : t < ws.length := (List.getElem?_eq_some_iff.mp e).1
  unfold cpR
  rw [if_pos ht]
  have := ap8_at ws (P 28) 0 t e (by omega)
  rwa [Nat.zero_add] at this
set_option maxHeartbeats 1000000 in
set_option maxRecDepth 20000 in
theorem cFewestX (O : Nat → Int32) (P : Nat → Nat → Int32) (Y : Nat → Nat → Int64) (g : Nat → zC) {u : Nat} (hu : u ≤ 120) (h1 : O 1 = nI u) (hp : pgI u (P 2) (P 4) (P 5) (P 6)) {l : Nat} (hl : l ≤ 20) (hO : O 9 = nI l) (x : Int32) : zK 86 zX6_fewest [.ref 0, .int x] (wX O P Y g) (fun r w' => ∃ (O' : Nat → Int32) (P' : Nat → Nat → Int32) (R : Int32), r = some (.int R) ∧ w' = wX O' P' Y g ∧ spV O P O' P' ∧ cfR O P u x O' P' R) := by
  refine zK_of qX6_fewest (by decide +kernel) rfl ?_
  iterate 3 (refine zv_step (bX6_fewest 86) rfl rfl trivial ?_)
  refine zv_V1 (bX6_fewest 86) rfl rfl rfl rfl rfl rfl rfl ⟨rfl, rfl, rfl⟩ ⟨by decide, by decide⟩ ⟨Nat.zero_le _, Nat.zero_le _⟩ (pHas1 O P Y g _) ?_
  rintro _ _ ⟨rfl, ⟨hh, rfl⟩ | ⟨hh, rfl⟩⟩
  · have hh1 : isN u x := by
      have h9 := hh
      rw [h1, nI_toInt (by omega)] at h9
      exact h9
    obtain ⟨n, hn, rfl⟩ := has_j hu h1 hh
    iterate 1 (refine zv_step (bX6_fewest 86) rfl rfl trivial ?_)
    refine zv_ift (by decide) ?_
    iterate 5 (refine zv_step (bX6_fewest 86) rfl rfl trivial ?_)
    refine zv_V2 (bX6_fewest 86) rfl rfl rfl rfl rfl rfl rfl ⟨rfl, rfl, rfl⟩ ⟨by decide, by decide⟩ ⟨Nat.zero_le _, Nat.zero_le _⟩ (pRight1 O P Y g _ (show vp_in (nI n) 120 from vp_in_nI (by omega) (by decide))) ?_
    rintro _ _ ⟨rfl, ⟨hrt, rfl⟩ | ⟨hrt, rfl⟩⟩
    · rw [nI_clamp (show n < 2 ^ 31 by omega)] at hrt
      iterate 1 (refine zv_step (bX6_fewest 86) rfl rfl trivial ?_)
      refine zv_ift (by decide) ?_
      iterate 4 (refine zv_step (bX6_fewest 86) rfl rfl trivial ?_)
      refine zv_iale (bX6_fewest 86) rfl rfl (show vp_in (nI n) 120 from vp_in_nI (by omega) (by decide)) (show P 9 (nI n).toNatClampNeg = P 9 n by rw [nI_clamp (by omega)]) ?_
      iterate 2 (refine zv_step (bX6_fewest 86) rfl rfl trivial ?_)
      refine zv_ifb (fun h42 => ?_) (fun h42 => ?_)
      · iterate 5 (refine zv_step (bX6_fewest 86) rfl rfl trivial ?_)
        refine zv_V2 (bX6_fewest 86) rfl rfl rfl rfl rfl rfl rfl ⟨rfl, rfl, rfl⟩ ⟨by decide, by decide⟩ ⟨Nat.zero_le _, Nat.zero_le _⟩ (sSparing27 O P Y g hu h1 hp hn) ?_
        rintro _ _ ⟨rfl, rfl⟩
        have hln : (spL O P n).length ≤ 6 * szq (P 6) (nI n) := by
          show (tlW (O 1) (O 4) (Int32.ofInt 1) P 41 (nI n) (Int32.ofInt 0)).length ≤ _
          rw [h1]
          exact tlW_len hu hp 41 _ _
        have hsz := szq_le hp hn hu
        refine zv_world (show wX (upd (upd O 5 (Int32.ofInt 1)) 3 (nI (spL O P n).length)) (updA P 28 (ap8 (P 28) 0 (spL O P n))) Y g = wX (upd (upd (upd O 5 (Int32.ofInt 1)) 3 (nI (spL O P n).length)) 9 (nI l)) (updA P 28 (ap8 (P 28) 0 (spL O P n))) Y g by rw [upd_same (show (upd (upd O 5 (Int32.ofInt 1)) 3 (nI (spL O P n).length)) 9 = nI l from hO)]) ?_
        iterate 1 (refine zv_step (bX6_fewest 86) rfl rfl trivial ?_)
        refine zv_V0 (bX6_fewest 86) rfl rfl rfl rfl rfl rfl rfl ⟨rfl, rfl, rfl⟩ ⟨by decide, by decide⟩ ⟨Nat.zero_le _, Nat.zero_le _⟩ (cHearSpeechX (upd (upd O 5 (Int32.ofInt 1)) 3 (nI (spL O P n).length)) (updA P 28 (ap8 (P 28) 0 (spL O P n))) Y g (q := (spL O P n).length) (l := l) (by omega) rfl) ?_
        rintro _ _ (⟨g1, rfl, rfl⟩ | ⟨g1, rfl, rfl⟩)
        · skip
          exact zv_iret (bX6_fewest 86) rfl (Or.inl rfl) (Nat.zero_le _) (Nat.zero_le _) ⟨_, _, _, rfl, rfl, ⟨fun j hj => by rw [upd_ne _ _ (by omega), upd_ne _ _ (by omega), upd_ne _ _ (by omega)], fun i a b c => updA_ne _ _ a⟩, Or.inr ⟨n, hn, rfl, Or.inr ⟨hrt, Or.inr ⟨h42, Or.inl ⟨g1, rfl, (upd_self _ _ _).trans hO.symm, updA_ne _ _ (by decide)⟩⟩⟩⟩⟩
        · skip
          exact zv_iret (bX6_fewest 86) rfl (Or.inl rfl) (Nat.zero_le _) (Nat.zero_le _) ⟨_, _, _, rfl, rfl, ⟨fun j hj => by rw [upd_ne _ _ (by omega), upd_ne _ _ (by omega), upd_ne _ _ (by omega)], fun i a b c => (updA_ne _ _ c).trans (updA_ne _ _ a)⟩, Or.inr ⟨n, hn, rfl, Or.inr ⟨hrt, Or.inr ⟨h42, Or.inr ⟨g1, rfl, upd_self _ _ _, by rw [updA_self, updA_self]; exact has_cp g1⟩⟩⟩⟩⟩
      · iterate 1 (refine zv_step (bX6_fewest 86) rfl rfl trivial ?_)
        exact zv_iret (bX6_fewest 86) rfl (Or.inl rfl) (Nat.zero_le _) (Nat.zero_le _) ⟨O, P, _, rfl, rfl, ⟨fun _ _ => rfl, fun _ _ _ _ => rfl⟩, Or.inr ⟨n, hn, rfl, Or.inr ⟨hrt, Or.inl ⟨rfl, h42, rfl, rfl⟩⟩⟩⟩
    · rw [nI_clamp (show n < 2 ^ 31 by omega)] at hrt
      iterate 1 (refine zv_step (bX6_fewest 86) rfl rfl trivial ?_)
      refine zv_iff (by decide) ?_
      iterate 1 (refine zv_step (bX6_fewest 86) rfl rfl trivial ?_)
      exact zv_iret (bX6_fewest 86) rfl (Or.inl rfl) (Nat.zero_le _) (Nat.zero_le _) ⟨O, P, _, rfl, rfl, ⟨fun _ _ => rfl, fun _ _ _ _ => rfl⟩, Or.inr ⟨n, hn, rfl, Or.inl ⟨rfl, hrt, rfl, rfl⟩⟩⟩
  · have hh1 : ¬ isN u x := fun q => hh (by rw [h1, nI_toInt (by omega)]; exact q)
    iterate 1 (refine zv_step (bX6_fewest 86) rfl rfl trivial ?_)
    refine zv_iff (by decide) ?_
    iterate 1 (refine zv_step (bX6_fewest 86) rfl rfl trivial ?_)
    exact zv_iret (bX6_fewest 86) rfl (Or.inl rfl) (Nat.zero_le _) (Nat.zero_le _) ⟨O, P, _, rfl, rfl, ⟨fun _ _ => rfl, fun _ _ _ _ => rfl⟩, Or.inl ⟨rfl, hh1, rfl, rfl⟩⟩
set_option maxHeartbeats 1000000 in
set_option maxRecDepth 20000 in
theorem cListenX (O : Nat → Int32) (P : Nat → Nat → Int32) (Y : Nat → Nat → Int64) (g : Nat → zC) {u : Nat} (hu : u ≤ 120) (h1 : O 1 = nI u) (hp : pgI u (P 2) (P 4) (P 5) (P 6)) {l : Nat} (hl : l ≤ 20) (hO : O 9 = nI l) (x y : Int32) : zK 86 zX6_listen [.ref 0, .int x, .int y] (wX O P Y g) (fun r w' => ∃ (O' : Nat → Int32) (P' : Nat → Nat → Int32) (R : Int32), r = some (.int R) ∧ w' = wX O' P' Y g ∧ spV O P O' P' ∧ clR O P u x y O' P' R) := by
  refine zK_of qX6_listen (by decide +kernel) rfl ?_
  iterate 1 (refine zv_step (bX6_listen 86) rfl rfl trivial ?_)
  refine zv_S1 (bX6_listen 86) rfl rfl rfl rfl ⟨rfl, rfl, rfl⟩ ⟨by decide, by decide⟩ ⟨Nat.zero_le _, Nat.zero_le _⟩ (hX6_isStyle _ _) ?_
  rintro _ _ ⟨rfl, ⟨hx, rfl⟩ | ⟨hx, rfl⟩⟩
  · obtain ⟨s, hs, rfl⟩ := in_nat (x := x) (b := 7) (by decide) hx
    iterate 1 (refine zv_step (bX6_listen 86) rfl rfl trivial ?_)
    refine zv_iff (by decide) ?_
    iterate 3 (refine zv_step (bX6_listen 86) rfl rfl trivial ?_)
    refine zv_V1 (bX6_listen 86) rfl rfl rfl rfl rfl rfl rfl ⟨rfl, rfl, rfl⟩ ⟨by decide, by decide⟩ ⟨Nat.zero_le _, Nat.zero_le _⟩ (pHas1 O P Y g _) ?_
    rintro _ _ ⟨rfl, ⟨hh, rfl⟩ | ⟨hh, rfl⟩⟩
    · have hh1 : isN u y := by
        have h9 := hh
        rw [h1, nI_toInt (by omega)] at h9
        exact h9
      obtain ⟨n, hn, rfl⟩ := has_j hu h1 hh
      iterate 1 (refine zv_step (bX6_listen 86) rfl rfl trivial ?_)
      refine zv_ift (by decide) ?_
      iterate 8 (refine zv_step (bX6_listen 86) rfl rfl trivial ?_)
      refine zv_iale (bX6_listen 86) rfl rfl (show vp_in (nI s) 8 from vp_in_nI (by omega) (by decide)) (show P 75 (nI s).toNatClampNeg = P 75 s by rw [nI_clamp (by omega)]) ?_
      iterate 1 (refine zv_step (bX6_listen 86) rfl rfl trivial ?_)
      refine zv_V4 (bX6_listen 86) rfl rfl rfl rfl rfl rfl rfl ⟨rfl, rfl, rfl⟩ ⟨by decide, by decide⟩ ⟨Nat.zero_le _, Nat.zero_le _⟩ (sStyle27 O P Y g hu h1 hp hn (f := 41) (by decide) rfl) ?_
      rintro _ _ ⟨rfl, rfl⟩
      have hln : (syL O P s n).length ≤ 6 * szq (P 6) (nI n) := by
        show (tlW (O 1) (P 75 s) (Int32.ofInt 0) P 41 (nI n) (hbW (P 75 s) (P 2 n))).length ≤ _
        rw [h1]
        exact tlW_len hu hp 41 _ _
      have hsz := szq_le hp hn hu
      iterate 2 (refine zv_step (bX6_listen 86) rfl rfl trivial ?_)
      refine zv_V0 (bX6_listen 86) rfl rfl rfl rfl rfl rfl rfl ⟨rfl, rfl, rfl⟩ ⟨by decide, by decide⟩ ⟨Nat.zero_le _, Nat.zero_le _⟩ (sLong27 _ _ _ _) ?_
      rintro _ _ ⟨rfl, ⟨hg, rfl⟩ | ⟨hg, rfl⟩⟩
      · have hg2 : 80 < (syL O P s n).length := by
          have h9 : 80 < (nI (syL O P s n).length).toInt := hg
          rw [nI_toInt (by omega)] at h9
          omega
        iterate 1 (refine zv_step (bX6_listen 86) rfl rfl trivial ?_)
        refine zv_iff (by decide) ?_
        iterate 1 (refine zv_step (bX6_listen 86) rfl rfl trivial ?_)
        exact zv_iret (bX6_listen 86) rfl (Or.inl rfl) (Nat.zero_le _) (Nat.zero_le _) ⟨_, _, _, rfl, rfl, ⟨fun j hj => by rw [upd_ne _ _ (by omega), upd_ne _ _ (by omega), upd_ne _ _ (by omega)], fun i a b c => updA_ne _ _ a⟩, Or.inr ⟨s, n, by omega, hn, rfl, rfl, Or.inl ⟨rfl, hg2, by rw [upd_ne _ _ (by decide), upd_ne _ _ (by decide), upd_ne _ _ (by decide)], updA_ne _ _ (by decide)⟩⟩⟩
      · have hg2 : ¬ 80 < (syL O P s n).length := fun q => hg (by show 80 < (nI (syL O P s n).length).toInt; rw [nI_toInt (by omega)]; omega)
        iterate 1 (refine zv_step (bX6_listen 86) rfl rfl trivial ?_)
        refine zv_ift (by decide) ?_
        refine zv_world (show wX (upd (upd (upd O 4 (P 75 s)) 5 (Int32.ofInt 0)) 3 (nI (syL O P s n).length)) (updA P 28 (ap8 (P 28) 0 (syL O P s n))) Y g = wX (upd (upd (upd (upd O 4 (P 75 s)) 5 (Int32.ofInt 0)) 3 (nI (syL O P s n).length)) 9 (nI l)) (updA P 28 (ap8 (P 28) 0 (syL O P s n))) Y g by rw [upd_same (show (upd (upd (upd O 4 (P 75 s)) 5 (Int32.ofInt 0)) 3 (nI (syL O P s n).length)) 9 = nI l from hO)]) ?_
        iterate 1 (refine zv_step (bX6_listen 86) rfl rfl trivial ?_)
        refine zv_V0 (bX6_listen 86) rfl rfl rfl rfl rfl rfl rfl ⟨rfl, rfl, rfl⟩ ⟨by decide, by decide⟩ ⟨Nat.zero_le _, Nat.zero_le _⟩ (cHearSpeechX (upd (upd (upd O 4 (P 75 s)) 5 (Int32.ofInt 0)) 3 (nI (syL O P s n).length)) (updA P 28 (ap8 (P 28) 0 (syL O P s n))) Y g (q := (syL O P s n).length) (l := l) (by omega) rfl) ?_
        rintro _ _ (⟨g1, rfl, rfl⟩ | ⟨g1, rfl, rfl⟩)
        · skip
          exact zv_iret (bX6_listen 86) rfl (Or.inl rfl) (Nat.zero_le _) (Nat.zero_le _) ⟨_, _, _, rfl, rfl, ⟨fun j hj => by rw [upd_ne _ _ (by omega), upd_ne _ _ (by omega), upd_ne _ _ (by omega), upd_ne _ _ (by omega)], fun i a b c => updA_ne _ _ a⟩, Or.inr ⟨s, n, by omega, hn, rfl, rfl, Or.inr ⟨by omega, Or.inl ⟨g1, rfl, (upd_self _ _ _).trans hO.symm, updA_ne _ _ (by decide)⟩⟩⟩⟩
        · skip
          exact zv_iret (bX6_listen 86) rfl (Or.inl rfl) (Nat.zero_le _) (Nat.zero_le _) ⟨_, _, _, rfl, rfl, ⟨fun j hj => by rw [upd_ne _ _ (by omega), upd_ne _ _ (by omega), upd_ne _ _ (by omega), upd_ne _ _ (by omega)], fun i a b c => (updA_ne _ _ c).trans (updA_ne _ _ a)⟩, Or.inr ⟨s, n, by omega, hn, rfl, rfl, Or.inr ⟨by omega, Or.inr ⟨g1, rfl, upd_self _ _ _, by rw [updA_self, updA_self]; exact has_cp g1⟩⟩⟩⟩
    · have hh1 : ¬ isN u y := fun q => hh (by rw [h1, nI_toInt (by omega)]; exact q)
      iterate 1 (refine zv_step (bX6_listen 86) rfl rfl trivial ?_)
      refine zv_iff (by decide) ?_
      iterate 1 (refine zv_step (bX6_listen 86) rfl rfl trivial ?_)
      exact zv_iret (bX6_listen 86) rfl (Or.inl rfl) (Nat.zero_le _) (Nat.zero_le _) ⟨O, P, _, rfl, rfl, ⟨fun _ _ => rfl, fun _ _ _ _ => rfl⟩, Or.inl ⟨rfl, fun q => hh1 q.2, rfl, rfl⟩⟩
  · skip
    iterate 1 (refine zv_step (bX6_listen 86) rfl rfl trivial ?_)
    refine zv_ift (by decide) ?_
    iterate 1 (refine zv_step (bX6_listen 86) rfl rfl trivial ?_)
    exact zv_iret (bX6_listen 86) rfl (Or.inl rfl) (Nat.zero_le _) (Nat.zero_le _) ⟨O, P, _, rfl, rfl, ⟨fun _ _ => rfl, fun _ _ _ _ => rfl⟩, Or.inl ⟨rfl, fun q => hx q.1, rfl, rfl⟩⟩
theorem wdW_sm {u : Nat} (hu : u ≤ 450) {A : Nat → Nat → Int32} (hT : tbI 0 u A) (s : Nat) : ∀ (z n : Nat), n < u → szN A n ≤ z → smL (wdW A s z (nI n))
  | 0, n, hn, hz => by have := (rN_sz (hT n (Nat.zero_le _) hn)).1; omega
  | z + 1, n, hn, hz => by
    obtain ⟨k, h0, hk, hs, h40, hv⟩ := rN_val (hT n (Nat.zero_le _) hn)
    have c8s : ∀ c : Nat, c ≤ 31 → ∃ e : Nat, e ≤ 31 ∧ nI c = nI e := fun c hc => ⟨c, hc, rfl⟩
    have hb : ∀ (c : Int32) (L : List Int32), smL L → smL (brL c L) := fun c L h => by
      unfold brL
      split
      · exact h
      · exact smL_cons (c8s 29 (by decide)) (smL_app h (smL_cons (c8s 30 (by decide)) smL_nil))
    rw [wdW_nI (by omega) hk h0]
    refine hb _ _ ?_
    rcases hs with ⟨k1, h2, h3, es⟩ | ⟨k1, k6, c, d, h2, la, hc, h3, lb, hd, es⟩ | ⟨k1, c, h2, la, hc, h3, es⟩
    · rcases (show k = 0 ∨ k = 1 by omega) with rfl | rfl
      · rw [coL_0 h0]
        obtain ⟨v, hv9, e⟩ := hv.1 (Or.inl rfl)
        exact smL_cons ⟨v, by omega, e⟩ smL_nil
      · rw [coL_1 h0]
        obtain ⟨v, hv9, e⟩ := hv.2.1 rfl
        rw [e]
        exact smL_dg hv9 _ (dgN_le _).2
    · rw [coL_2 k1 k6 h0, h2, h3]
      exact smL_app (wdW_sm hu hT s z c (by omega) (by omega)) (smL_cons ⟨18 + k, by omega, by rw [show c8 18 = nI 18 from rfl, nI_add]⟩ (wdW_sm hu hT s z d (by omega) (by omega)))
    · have q := wdW_sm hu hT s z c (by omega) (by omega)
      rcases (show k = 7 ∨ k = 8 ∨ k = 9 by omega) with rfl | rfl | rfl
      · rw [coL_7 h0, h2]
        exact smL_cons (c8s 25 (by decide)) q
      · rw [coL_8 h0, h2]
        exact smL_cons (c8s 26 (by decide)) (smL_app q (smL_cons (c8s 27 (by decide)) smL_nil))
      · rw [coL_9 h0, h2]
        obtain ⟨v, hv9, e⟩ := hv.1 (Or.inr rfl)
        exact smL_cons ⟨v, by omega, e⟩ (smL_cons (c8s 28 (by decide)) q)
set_option maxHeartbeats 1000000 in
set_option maxRecDepth 20000 in
theorem mListenX (f : Nat → zC) (o : Nat → Int32) (A : Nat → Nat → Int32) (J : Nat → Nat → Int64) {u : Nat} (hu : u ≤ 120) (ho : o 0 = nI u) (hT : tbI 0 u A) (hB : blI A) {h : Nat} (hh : h ≤ 20) (ho10 : o 10 = nI h) (hw : nnW h (A 8)) (x y : Int32) : zK 44 zX7_listen [.ref 76, .int x, .int y] (wR f o A J) (fun r w' => ∃ (o' : Nat → Int32) (A' : Nat → Nat → Int32) (R : Int32), r = some (.int R) ∧ w' = wR f o' A' J ∧ eX o A o' A' ∧ mlR o A u x y o' A' R) := by
  refine zK_of qX7_listen (by decide +kernel) rfl ?_
  iterate 1 (refine zv_step (bX7_listen 44) rfl rfl trivial ?_)
  refine zv_S1 (bX7_listen 44) rfl rfl rfl rfl ⟨rfl, rfl, rfl⟩ ⟨by decide, by decide⟩ ⟨Nat.zero_le _, Nat.zero_le _⟩ (hX7_isStyle _ _) ?_
  rintro _ _ ⟨rfl, ⟨g1, rfl⟩ | ⟨g1, rfl⟩⟩
  · obtain ⟨s, hs, rfl⟩ := in_nat (x := x) (b := 7) (by decide) g1
    iterate 1 (refine zv_step (bX7_listen 44) rfl rfl trivial ?_)
    refine zv_iff (by decide) ?_
    iterate 2 (refine zv_step (bX7_listen 44) rfl rfl trivial ?_)
    refine zv_V1 (bX7_listen 44) rfl rfl rfl rfl rfl rfl rfl ⟨rfl, rfl, rfl⟩ ⟨by decide, by decide⟩ ⟨Nat.zero_le _, Nat.zero_le _⟩ (mIsNode f o A J hu ho _) ?_
    rintro _ _ ⟨rfl, ⟨g2, rfl⟩ | ⟨g2, rfl⟩⟩
    · obtain ⟨n, hn, rfl⟩ := nd_of (by omega) g2
      iterate 1 (refine zv_step (bX7_listen 44) rfl rfl trivial ?_)
      refine zv_ift (by decide) ?_
      iterate 3 (refine zv_step (bX7_listen 44) rfl rfl trivial ?_)
      refine zv_V2 (bX7_listen 44) rfl rfl rfl rfl rfl rfl rfl ⟨rfl, rfl, rfl⟩ ⟨by decide, by decide⟩ ⟨Nat.zero_le _, Nat.zero_le _⟩ (mLength f o A J (by omega) hT (s := s) (by omega) 40 _ (pt_of hT (Nat.zero_le _) hn)) ?_
      rintro _ _ ⟨rfl, rfl⟩
      have hlw := wdW_len (by omega) hT s 40 (nI n) (pt_of hT (Nat.zero_le _) hn)
      have hl9 := lnW_le (by omega) hT s 40 (nI n) (pt_of hT (Nat.zero_le _) hn)
      have hz9 := (rN_sz (hT n (Nat.zero_le _) hn)).2.1
      rw [if_neg (nI_pos (by omega)), nI_clamp (show n < 2 ^ 31 by omega)] at hl9
      iterate 4 (refine zv_step (bX7_listen 44) rfl rfl trivial ?_)
      refine zv_ifb (fun h27 => ?_) (fun h27 => ?_)
      · have q27 : (wdW A s 40 (nI n)).length ≤ 80 := by
          have h9 : nI (lnW A s 40 (nI n)) ≤ nI 80 := h27
          rw [nI_leI (by omega) (by decide)] at h9
          omega
        iterate 3 (refine zv_step (bX7_listen 44) rfl rfl trivial ?_)
        refine zv_ifb (fun h36 => ?_) (fun h36 => ?_)
        · have q36 : (wdW A s 40 (nI n)).length ≤ 20 := by
            have h9 : nI (lnW A s 40 (nI n)) ≤ nI 20 := h36
            rw [nI_leI (by omega) (by decide)] at h9
            omega
          iterate 3 (refine zv_step (bX7_listen 44) rfl rfl trivial ?_)
          refine zv_V2 (bX7_listen 44) rfl rfl rfl rfl rfl rfl rfl ⟨rfl, rfl, rfl⟩ ⟨by decide, by decide⟩ ⟨Nat.zero_le _, Nat.zero_le _⟩ (mSayAllX f o A J (by omega) hT hB (s := s) (by omega) (Nat.zero_le _) hn) ?_
          rintro _ _ ⟨rfl, m9, rfl⟩
          refine zv_world (show _ = wR f (upd (upd (upd o 19 (Int32.ofInt (-1))) 20 m9) 18 (nI (wdW A s 40 (nI n)).length)) (updA A 14 (appA (A 14) 0 (wdW A s 40 (nI n)))) J from rfl) ?_
          iterate 1 (refine zv_step (bX7_listen 44) rfl rfl trivial ?_)
          refine zv_V0 (bX7_listen 44) rfl rfl rfl rfl rfl rfl rfl ⟨rfl, rfl, rfl⟩ ⟨by decide, by decide⟩ ⟨Nat.zero_le _, Nat.zero_le _⟩ (mHearsX f (upd (upd (upd o 19 (Int32.ofInt (-1))) 20 m9) 18 (nI (wdW A s 40 (nI n)).length)) (updA A 14 (appA (A 14) 0 (wdW A s 40 (nI n)))) J (q := (wdW A s 40 (nI n)).length) q36 rfl) ?_
          rintro _ _ ⟨rfl, rfl⟩
          iterate 2 (refine zv_step (bX7_listen 44) rfl rfl trivial ?_)
          have hrow : ∀ i, i < (wdW A s 40 (nI n)).length → cpR ((updA A 14 (appA (A 14) 0 (wdW A s 40 (nI n)))) 8) ((updA A 14 (appA (A 14) 0 (wdW A s 40 (nI n)))) 14) (wdW A s 40 (nI n)).length i = appA (A 14) 0 (wdW A s 40 (nI n)) i := fun i hi => by
            unfold cpR
            rw [if_pos hi, updA_self]
          have hsm := wdW_sm (by omega) hT s 40 n hn (rN_sz (hT n (Nat.zero_le _) hn)).2.1
          have hnn : nnW (wdW A s 40 (nI n)).length (cpR ((updA A 14 (appA (A 14) 0 (wdW A s 40 (nI n)))) 8) ((updA A 14 (appA (A 14) 0 (wdW A s 40 (nI n)))) 14) (wdW A s 40 (nI n)).length) := fun i hi => by
            rw [hrow i hi]
            exact nn_app (fun t v e => hsm v (List.mem_of_getElem? e)) i hi
          refine zv_iret (bX7_listen 44) rfl (Or.inl rfl) (Nat.zero_le _) (Nat.zero_le _) ⟨_, _, nI (wdW A s 40 (nI n)).length, rfl, rfl, ⟨⟨_, q36, upd_self _ _ _, by rw [updA_self]; exact hnn⟩, fun j a b => by rw [upd_ne _ _ a, upd_ne _ _ (by omega), upd_ne _ _ (by omega), upd_ne _ _ (by omega)], fun r a b c => (updA_ne _ _ a).trans (updA_ne _ _ b)⟩, Or.inr ⟨s, n, by omega, hn, rfl, rfl, Or.inr ⟨by omega, Or.inr ⟨q36, rfl, upd_self _ _ _, fun t v e => ?_⟩⟩⟩⟩
          have ht : t < (wdW A s 40 (nI n)).length := (List.getElem?_eq_some_iff.mp e).1
          rw [updA_self, hrow t ht]
          have := appA_at (wdW A s 40 (nI n)) (A 14) 0 t e
          rwa [Nat.zero_add] at this
        · have q36 : ¬ (wdW A s 40 (nI n)).length ≤ 20 := fun q => h36 (show nI (lnW A s 40 (nI n)) ≤ nI 20 by rw [nI_leI (by omega) (by decide)]; omega)
          iterate 1 (refine zv_step (bX7_listen 44) rfl rfl trivial ?_)
          exact zv_iret (bX7_listen 44) rfl (Or.inl rfl) (Nat.zero_le _) (Nat.zero_le _) ⟨o, A, _, rfl, rfl, eX_q hh ho10 hw (qX_refl o A), Or.inr ⟨s, n, by omega, hn, rfl, rfl, Or.inr ⟨by omega, Or.inl ⟨by omega, rfl, rfl, rfl⟩⟩⟩⟩
      · have q27 : ¬ (wdW A s 40 (nI n)).length ≤ 80 := fun q => h27 (show nI (lnW A s 40 (nI n)) ≤ nI 80 by rw [nI_leI (by omega) (by decide)]; omega)
        iterate 1 (refine zv_step (bX7_listen 44) rfl rfl trivial ?_)
        exact zv_iret (bX7_listen 44) rfl (Or.inl rfl) (Nat.zero_le _) (Nat.zero_le _) ⟨o, A, _, rfl, rfl, eX_q hh ho10 hw (qX_refl o A), Or.inr ⟨s, n, by omega, hn, rfl, rfl, Or.inl ⟨rfl, by omega, rfl, rfl⟩⟩⟩
    · skip
      iterate 1 (refine zv_step (bX7_listen 44) rfl rfl trivial ?_)
      refine zv_iff (by decide) ?_
      iterate 1 (refine zv_step (bX7_listen 44) rfl rfl trivial ?_)
      exact zv_iret (bX7_listen 44) rfl (Or.inl rfl) (Nat.zero_le _) (Nat.zero_le _) ⟨o, A, _, rfl, rfl, eX_q hh ho10 hw (qX_refl o A), Or.inl ⟨rfl, fun q => g2 (by omega), rfl, rfl⟩⟩
  · skip
    iterate 1 (refine zv_step (bX7_listen 44) rfl rfl trivial ?_)
    refine zv_ift (by decide) ?_
    iterate 1 (refine zv_step (bX7_listen 44) rfl rfl trivial ?_)
    exact zv_iret (bX7_listen 44) rfl (Or.inl rfl) (Nat.zero_le _) (Nat.zero_le _) ⟨o, A, _, rfl, rfl, eX_q hh ho10 hw (qX_refl o A), Or.inl ⟨rfl, fun q => g1 q.1, rfl, rfl⟩⟩
end
section
def spT (O : Nat → Int32) (P : Nat → Nat → Int32) (O' : Nat → Int32) (P' : Nat → Nat → Int32) : Prop := (∀ j, j < 3 ∨ 8 < j → O' j = O j) ∧ (∀ i, i ≠ 28 → i ≠ 30 → P' i = P i)
theorem spT_say {O : Nat → Int32} {P : Nat → Nat → Int32} (a b c : Int32) (R : Nat → Int32) : spT O P (upd (upd (upd O 4 a) 5 b) 3 c) (updA P 28 R) :=
  ⟨fun j hj => by rw [upd_ne _ _ (by omega), upd_ne _ _ (by omega), upd_ne _ _ (by omega)], fun i h _ => updA_ne _ _ h⟩
theorem spT_two {O : Nat → Int32} {P : Nat → Nat → Int32} (a b c d e f : Int32) (R S : Nat → Int32) : spT O P (upd (upd (upd (upd (upd (upd O 4 a) 5 b) 3 c) 7 d) 8 e) 6 f) (updA (updA P 28 R) 30 S) :=
  ⟨fun j hj => by rw [upd_ne _ _ (by omega), upd_ne _ _ (by omega), upd_ne _ _ (by omega), upd_ne _ _ (by omega), upd_ne _ _ (by omega), upd_ne _ _ (by omega)], fun i h k => (updA_ne _ _ k).trans (updA_ne _ _ h)⟩
set_option maxHeartbeats 1000000 in
set_option maxRecDepth 20000 in
theorem cWordsT (O : Nat → Int32) (P : Nat → Nat → Int32) (Y : Nat → Nat → Int64) (g : Nat → zC) {u : Nat} (hu : u ≤ 120) (h1 : O 1 = nI u) (hp : pgI u (P 2) (P 4) (P 5) (P 6)) {l : Nat} (hl : l ≤ 20) (hO : O 9 = nI l) (x n : Int32) : zK 86 zX6_words [.ref 0, .int x, .int n] (wX O P Y g) (fun r w' => ∃ (O' : Nat → Int32) (P' : Nat → Nat → Int32) (R : Int32), r = some (.int R) ∧ w' = wX O' P' Y g ∧ spT O P O' P') := by
  refine zK_of qX6_words (by decide +kernel) rfl ?_
  iterate 1 (refine zv_step (bX6_words 86) rfl rfl trivial ?_)
  refine zv_S1 (bX6_words 86) rfl rfl rfl rfl ⟨rfl, rfl, rfl⟩ ⟨by decide, by decide⟩ ⟨Nat.zero_le _, Nat.zero_le _⟩ (hX6_isStyle _ _) ?_
  rintro _ _ ⟨rfl, ⟨hx, rfl⟩ | ⟨hx, rfl⟩⟩
  · iterate 1 (refine zv_step (bX6_words 86) rfl rfl trivial ?_)
    refine zv_iff (by decide) ?_
    iterate 3 (refine zv_step (bX6_words 86) rfl rfl trivial ?_)
    refine zv_V1 (bX6_words 86) rfl rfl rfl rfl rfl rfl rfl ⟨rfl, rfl, rfl⟩ ⟨by decide, by decide⟩ ⟨Nat.zero_le _, Nat.zero_le _⟩ (pHas1 O P Y g _) ?_
    rintro _ _ ⟨rfl, ⟨hh, rfl⟩ | ⟨hh, rfl⟩⟩
    · iterate 1 (refine zv_step (bX6_words 86) rfl rfl trivial ?_)
      refine zv_ift (by decide) ?_
      obtain ⟨j, hj, rfl⟩ := has_j hu h1 hh
      iterate 8 (refine zv_step (bX6_words 86) rfl rfl trivial ?_)
      refine zv_step (bX6_words 86) rfl rfl (vp_in_iff.mpr ⟨hx.1, Int.lt_of_le_of_lt hx.2 (by decide)⟩) ?_
      iterate 1 (refine zv_step (bX6_words 86) rfl rfl trivial ?_)
      refine zv_V4 (bX6_words 86) rfl rfl rfl rfl rfl rfl rfl ⟨rfl, rfl, rfl⟩ ⟨by decide, by decide⟩ ⟨Nat.zero_le _, Nat.zero_le _⟩ (sStyle27 O P Y g hu h1 hp hj (f := 41) (by decide) rfl) ?_
      rintro _ _ ⟨rfl, rfl⟩
      have hln : (tlW (O 1) (P 75 x.toNatClampNeg) (Int32.ofInt 0) P 41 (nI j) (hbW (P 75 x.toNatClampNeg) (P 2 j))).length ≤ 6 * szq (P 6) (nI j) := by rw [h1]; exact tlW_len hu hp 41 _ _
      have hsz := szq_le hp hj hu
      generalize (tlW (O 1) (P 75 x.toNatClampNeg) (Int32.ofInt 0) P 41 (nI j) (hbW (P 75 x.toNatClampNeg) (P 2 j))) = ws at hln ⊢
      iterate 2 (refine zv_step (bX6_words 86) rfl rfl trivial ?_)
      refine zv_V0 (bX6_words 86) rfl rfl rfl rfl rfl rfl rfl ⟨rfl, rfl, rfl⟩ ⟨by decide, by decide⟩ ⟨Nat.zero_le _, Nat.zero_le _⟩ (sLong27 _ _ _ _) ?_
      rintro _ _ ⟨rfl, ⟨hg, rfl⟩ | ⟨hg, rfl⟩⟩
      · iterate 1 (refine zv_step (bX6_words 86) rfl rfl trivial ?_)
        refine zv_iff (by decide) ?_
        iterate 2 (refine zv_step (bX6_words 86) rfl rfl trivial ?_)
        exact zv_iret (bX6_words 86) rfl (Or.inl rfl) (Nat.zero_le _) (Nat.zero_le _) ⟨_, _, _, rfl, rfl, spT_say _ _ _ _⟩
      · iterate 1 (refine zv_step (bX6_words 86) rfl rfl trivial ?_)
        refine zv_ift (by decide) ?_
        iterate 3 (refine zv_step (bX6_words 86) rfl rfl trivial ?_)
        exact zv_iret (bX6_words 86) rfl (Or.inl rfl) (Nat.zero_le _) (Nat.zero_le _) ⟨_, _, _, rfl, rfl, spT_say _ _ _ _⟩
    · iterate 1 (refine zv_step (bX6_words 86) rfl rfl trivial ?_)
      refine zv_iff (by decide) ?_
      iterate 1 (refine zv_step (bX6_words 86) rfl rfl trivial ?_)
      exact zv_iret (bX6_words 86) rfl (Or.inl rfl) (Nat.zero_le _) (Nat.zero_le _) ⟨O, P, _, rfl, rfl, fun _ _ => rfl, fun _ _ _ => rfl⟩
  · iterate 1 (refine zv_step (bX6_words 86) rfl rfl trivial ?_)
    refine zv_ift (by decide) ?_
    iterate 1 (refine zv_step (bX6_words 86) rfl rfl trivial ?_)
    exact zv_iret (bX6_words 86) rfl (Or.inl rfl) (Nat.zero_le _) (Nat.zero_le _) ⟨O, P, _, rfl, rfl, fun _ _ => rfl, fun _ _ _ => rfl⟩
set_option maxHeartbeats 1000000 in
set_option maxRecDepth 20000 in
theorem cWordT (O : Nat → Int32) (P : Nat → Nat → Int32) (Y : Nat → Nat → Int64) (g : Nat → zC) {u : Nat} (hu : u ≤ 120) (h1 : O 1 = nI u) (hp : pgI u (P 2) (P 4) (P 5) (P 6)) {l : Nat} (hl : l ≤ 20) (hO : O 9 = nI l) (x n k : Int32) : zK 86 zX6_word [.ref 0, .int x, .int n, .int k] (wX O P Y g) (fun r w' => ∃ (O' : Nat → Int32) (P' : Nat → Nat → Int32) (R : Int32), r = some (.int R) ∧ w' = wX O' P' Y g ∧ spT O P O' P') := by
  refine zK_of qX6_word (by decide +kernel) rfl ?_
  iterate 1 (refine zv_step (bX6_word 86) rfl rfl trivial ?_)
  refine zv_S1 (bX6_word 86) rfl rfl rfl rfl ⟨rfl, rfl, rfl⟩ ⟨by decide, by decide⟩ ⟨Nat.zero_le _, Nat.zero_le _⟩ (hX6_isStyle _ _) ?_
  rintro _ _ ⟨rfl, ⟨hx, rfl⟩ | ⟨hx, rfl⟩⟩
  · iterate 1 (refine zv_step (bX6_word 86) rfl rfl trivial ?_)
    refine zv_iff (by decide) ?_
    iterate 3 (refine zv_step (bX6_word 86) rfl rfl trivial ?_)
    refine zv_V1 (bX6_word 86) rfl rfl rfl rfl rfl rfl rfl ⟨rfl, rfl, rfl⟩ ⟨by decide, by decide⟩ ⟨Nat.zero_le _, Nat.zero_le _⟩ (pHas1 O P Y g _) ?_
    rintro _ _ ⟨rfl, ⟨hh, rfl⟩ | ⟨hh, rfl⟩⟩
    · iterate 1 (refine zv_step (bX6_word 86) rfl rfl trivial ?_)
      refine zv_iff (by decide) ?_
      iterate 2 (refine zv_step (bX6_word 86) rfl rfl trivial ?_)
      refine zv_ifb (fun h3 => ?_) (fun h3 => ?_)
      · obtain ⟨j, hj, rfl⟩ := has_j hu h1 hh
        iterate 8 (refine zv_step (bX6_word 86) rfl rfl trivial ?_)
        refine zv_step (bX6_word 86) rfl rfl (vp_in_iff.mpr ⟨hx.1, Int.lt_of_le_of_lt hx.2 (by decide)⟩) ?_
        iterate 1 (refine zv_step (bX6_word 86) rfl rfl trivial ?_)
        refine zv_V4 (bX6_word 86) rfl rfl rfl rfl rfl rfl rfl ⟨rfl, rfl, rfl⟩ ⟨by decide, by decide⟩ ⟨Nat.zero_le _, Nat.zero_le _⟩ (sStyle27 O P Y g hu h1 hp hj (f := 41) (by decide) rfl) ?_
        rintro _ _ ⟨rfl, rfl⟩
        have hln : (tlW (O 1) (P 75 x.toNatClampNeg) (Int32.ofInt 0) P 41 (nI j) (hbW (P 75 x.toNatClampNeg) (P 2 j))).length ≤ 6 * szq (P 6) (nI j) := by rw [h1]; exact tlW_len hu hp 41 _ _
        have hsz := szq_le hp hj hu
        generalize (tlW (O 1) (P 75 x.toNatClampNeg) (Int32.ofInt 0) P 41 (nI j) (hbW (P 75 x.toNatClampNeg) (P 2 j))) = ws at hln ⊢
        iterate 5 (refine zv_step (bX6_word 86) rfl rfl trivial ?_)
        refine zv_ifb (fun h4 => ?_) (fun h4 => ?_)
        · iterate 2 (refine zv_step (bX6_word 86) rfl rfl trivial ?_)
          refine zv_V0 (bX6_word 86) rfl rfl rfl rfl rfl rfl rfl ⟨rfl, rfl, rfl⟩ ⟨by decide, by decide⟩ ⟨Nat.zero_le _, Nat.zero_le _⟩ (sLong27 _ _ _ _) ?_
          rintro _ _ ⟨rfl, ⟨hg, rfl⟩ | ⟨hg, rfl⟩⟩
          · iterate 1 (refine zv_step (bX6_word 86) rfl rfl trivial ?_)
            refine zv_iff (by decide) ?_
            iterate 2 (refine zv_step (bX6_word 86) rfl rfl trivial ?_)
            exact zv_iret (bX6_word 86) rfl (Or.inl rfl) (Nat.zero_le _) (Nat.zero_le _) ⟨_, _, _, rfl, rfl, spT_say _ _ _ _⟩
          · iterate 1 (refine zv_step (bX6_word 86) rfl rfl trivial ?_)
            refine zv_ift (by decide) ?_
            iterate 4 (refine zv_step (bX6_word 86) rfl rfl trivial ?_)
            refine zv_step (bX6_word 86) rfl rfl (vp_in_iff.mpr ⟨by have h5 := Int32.le_iff_toInt_le.mp h3; rw [Int32.toInt_zero] at h5; exact h5, Int.lt_of_lt_of_le (Int32.lt_iff_toInt_lt.mp h4) (Int.not_lt.mp hg)⟩) ?_
            exact zv_iret (bX6_word 86) rfl (Or.inl rfl) (Nat.zero_le _) (Nat.zero_le _) ⟨_, _, _, rfl, rfl, spT_say _ _ _ _⟩
        · iterate 1 (refine zv_step (bX6_word 86) rfl rfl trivial ?_)
          exact zv_iret (bX6_word 86) rfl (Or.inl rfl) (Nat.zero_le _) (Nat.zero_le _) ⟨_, _, _, rfl, rfl, spT_say _ _ _ _⟩
      · iterate 1 (refine zv_step (bX6_word 86) rfl rfl trivial ?_)
        exact zv_iret (bX6_word 86) rfl (Or.inl rfl) (Nat.zero_le _) (Nat.zero_le _) ⟨O, P, _, rfl, rfl, fun _ _ => rfl, fun _ _ _ => rfl⟩
    · iterate 1 (refine zv_step (bX6_word 86) rfl rfl trivial ?_)
      refine zv_ift (by decide) ?_
      iterate 1 (refine zv_step (bX6_word 86) rfl rfl trivial ?_)
      exact zv_iret (bX6_word 86) rfl (Or.inl rfl) (Nat.zero_le _) (Nat.zero_le _) ⟨O, P, _, rfl, rfl, fun _ _ => rfl, fun _ _ _ => rfl⟩
  · iterate 1 (refine zv_step (bX6_word 86) rfl rfl trivial ?_)
    refine zv_ift (by decide) ?_
    iterate 1 (refine zv_step (bX6_word 86) rfl rfl trivial ?_)
    exact zv_iret (bX6_word 86) rfl (Or.inl rfl) (Nat.zero_le _) (Nat.zero_le _) ⟨O, P, _, rfl, rfl, fun _ _ => rfl, fun _ _ _ => rfl⟩
set_option maxHeartbeats 1000000 in
set_option maxRecDepth 20000 in
theorem cSoundT (O : Nat → Int32) (P : Nat → Nat → Int32) (Y : Nat → Nat → Int64) (g : Nat → zC) {u : Nat} (hu : u ≤ 120) (h1 : O 1 = nI u) (hp : pgI u (P 2) (P 4) (P 5) (P 6)) {l : Nat} (hl : l ≤ 20) (hO : O 9 = nI l) (x n m : Int32) : zK 86 zX6_sound [.ref 0, .int x, .int n, .int m] (wX O P Y g) (fun r w' => ∃ (O' : Nat → Int32) (P' : Nat → Nat → Int32) (R : Int32), r = some (.int R) ∧ w' = wX O' P' Y g ∧ spT O P O' P') := by
  refine zK_of qX6_sound (by decide +kernel) rfl ?_
  iterate 1 (refine zv_step (bX6_sound 86) rfl rfl trivial ?_)
  refine zv_S1 (bX6_sound 86) rfl rfl rfl rfl ⟨rfl, rfl, rfl⟩ ⟨by decide, by decide⟩ ⟨Nat.zero_le _, Nat.zero_le _⟩ (hX6_isStyle _ _) ?_
  rintro _ _ ⟨rfl, ⟨hx, rfl⟩ | ⟨hx, rfl⟩⟩
  · iterate 1 (refine zv_step (bX6_sound 86) rfl rfl trivial ?_)
    refine zv_iff (by decide) ?_
    iterate 3 (refine zv_step (bX6_sound 86) rfl rfl trivial ?_)
    refine zv_V1 (bX6_sound 86) rfl rfl rfl rfl rfl rfl rfl ⟨rfl, rfl, rfl⟩ ⟨by decide, by decide⟩ ⟨Nat.zero_le _, Nat.zero_le _⟩ (pHas1 O P Y g _) ?_
    rintro _ _ ⟨rfl, ⟨hh, rfl⟩ | ⟨hh, rfl⟩⟩
    · iterate 1 (refine zv_step (bX6_sound 86) rfl rfl trivial ?_)
      refine zv_iff (by decide) ?_
      iterate 3 (refine zv_step (bX6_sound 86) rfl rfl trivial ?_)
      refine zv_V1 (bX6_sound 86) rfl rfl rfl rfl rfl rfl rfl ⟨rfl, rfl, rfl⟩ ⟨by decide, by decide⟩ ⟨Nat.zero_le _, Nat.zero_le _⟩ (pHas1 O P Y g _) ?_
      rintro _ _ ⟨rfl, ⟨hm, rfl⟩ | ⟨hm, rfl⟩⟩
      · iterate 1 (refine zv_step (bX6_sound 86) rfl rfl trivial ?_)
        refine zv_ift (by decide) ?_
        obtain ⟨j, hj, rfl⟩ := has_j hu h1 hh
        obtain ⟨i, hi, rfl⟩ := has_j hu h1 hm
        iterate 8 (refine zv_step (bX6_sound 86) rfl rfl trivial ?_)
        refine zv_step (bX6_sound 86) rfl rfl (vp_in_iff.mpr ⟨hx.1, Int.lt_of_le_of_lt hx.2 (by decide)⟩) ?_
        iterate 1 (refine zv_step (bX6_sound 86) rfl rfl trivial ?_)
        refine zv_V4 (bX6_sound 86) rfl rfl rfl rfl rfl rfl rfl ⟨rfl, rfl, rfl⟩ ⟨by decide, by decide⟩ ⟨Nat.zero_le _, Nat.zero_le _⟩ (sStyle27 O P Y g hu h1 hp hj (f := 41) (by decide) rfl) ?_
        rintro _ _ ⟨rfl, rfl⟩
        have hln : (tlW (O 1) (P 75 x.toNatClampNeg) (Int32.ofInt 0) P 41 (nI j) (hbW (P 75 x.toNatClampNeg) (P 2 j))).length ≤ 6 * szq (P 6) (nI j) := by rw [h1]; exact tlW_len hu hp 41 _ _
        have hsz := szq_le hp hj hu
        generalize (tlW (O 1) (P 75 x.toNatClampNeg) (Int32.ofInt 0) P 41 (nI j) (hbW (P 75 x.toNatClampNeg) (P 2 j))) = ws at hln ⊢
        iterate 8 (refine zv_step (bX6_sound 86) rfl rfl trivial ?_)
        refine zv_step (bX6_sound 86) rfl rfl (vp_in_iff.mpr ⟨hx.1, Int.lt_of_le_of_lt hx.2 (by decide)⟩) ?_
        iterate 1 (refine zv_step (bX6_sound 86) rfl rfl trivial ?_)
        refine zv_V4 (bX6_sound 86) rfl rfl rfl rfl rfl rfl rfl ⟨rfl, rfl, rfl⟩ ⟨by decide, by decide⟩ ⟨Nat.zero_le _, Nat.zero_le _⟩ (sStyle29 (upd (upd (upd O 4 (P 75 x.toNatClampNeg)) 5 (Int32.ofInt 0)) 3 (nI ws.length)) (updA P 28 (ap8 (P 28) 0 ws)) Y g hu h1 hp hi (f := 41) (by decide) rfl) ?_
        rintro _ _ ⟨rfl, rfl⟩
        iterate 2 (refine zv_step (bX6_sound 86) rfl rfl trivial ?_)
        refine zv_V0 (bX6_sound 86) rfl rfl rfl rfl rfl rfl rfl ⟨rfl, rfl, rfl⟩ ⟨by decide, by decide⟩ ⟨Nat.zero_le _, Nat.zero_le _⟩ (sLong27 _ _ _ _) ?_
        rintro _ _ ⟨rfl, ⟨hg, rfl⟩ | ⟨hg, rfl⟩⟩
        · iterate 1 (refine zv_step (bX6_sound 86) rfl rfl trivial ?_)
          refine zv_ift (by decide) ?_
          iterate 1 (refine zv_step (bX6_sound 86) rfl rfl trivial ?_)
          exact zv_iret (bX6_sound 86) rfl (Or.inl rfl) (Nat.zero_le _) (Nat.zero_le _) ⟨_, _, _, rfl, rfl, spT_two _ _ _ _ _ _ _ _⟩
        · iterate 1 (refine zv_step (bX6_sound 86) rfl rfl trivial ?_)
          refine zv_iff (by decide) ?_
          iterate 2 (refine zv_step (bX6_sound 86) rfl rfl trivial ?_)
          refine zv_V0 (bX6_sound 86) rfl rfl rfl rfl rfl rfl rfl ⟨rfl, rfl, rfl⟩ ⟨by decide, by decide⟩ ⟨Nat.zero_le _, Nat.zero_le _⟩ (sLong29 _ _ _ _) ?_
          rintro _ _ ⟨rfl, ⟨hk, rfl⟩ | ⟨hk, rfl⟩⟩
          · iterate 1 (refine zv_step (bX6_sound 86) rfl rfl trivial ?_)
            refine zv_iff (by decide) ?_
            iterate 1 (refine zv_step (bX6_sound 86) rfl rfl trivial ?_)
            exact zv_iret (bX6_sound 86) rfl (Or.inl rfl) (Nat.zero_le _) (Nat.zero_le _) ⟨_, _, _, rfl, rfl, spT_two _ _ _ _ _ _ _ _⟩
          · iterate 1 (refine zv_step (bX6_sound 86) rfl rfl trivial ?_)
            refine zv_ift (by decide) ?_
            iterate 4 (refine zv_step (bX6_sound 86) rfl rfl trivial ?_)
            refine zv_V1 (bX6_sound 86) rfl rfl rfl rfl rfl rfl rfl ⟨rfl, rfl, rfl⟩ ⟨by decide, by decide⟩ ⟨Nat.zero_le _, Nat.zero_le _⟩ (sSame _ _ _ _ (q := ws.length) (by omega) rfl) ?_
            rintro _ _ ⟨rfl, rfl | rfl⟩
            · iterate 1 (refine zv_step (bX6_sound 86) rfl rfl trivial ?_)
              refine zv_iff (by decide) ?_
              iterate 2 (refine zv_step (bX6_sound 86) rfl rfl trivial ?_)
              exact zv_iret (bX6_sound 86) rfl (Or.inl rfl) (Nat.zero_le _) (Nat.zero_le _) ⟨_, _, _, rfl, rfl, spT_two _ _ _ _ _ _ _ _⟩
            · iterate 1 (refine zv_step (bX6_sound 86) rfl rfl trivial ?_)
              refine zv_ift (by decide) ?_
              iterate 1 (refine zv_step (bX6_sound 86) rfl rfl trivial ?_)
              exact zv_iret (bX6_sound 86) rfl (Or.inl rfl) (Nat.zero_le _) (Nat.zero_le _) ⟨_, _, _, rfl, rfl, spT_two _ _ _ _ _ _ _ _⟩
      · iterate 1 (refine zv_step (bX6_sound 86) rfl rfl trivial ?_)
        refine zv_iff (by decide) ?_
        iterate 1 (refine zv_step (bX6_sound 86) rfl rfl trivial ?_)
        exact zv_iret (bX6_sound 86) rfl (Or.inl rfl) (Nat.zero_le _) (Nat.zero_le _) ⟨O, P, _, rfl, rfl, fun _ _ => rfl, fun _ _ _ => rfl⟩
    · iterate 1 (refine zv_step (bX6_sound 86) rfl rfl trivial ?_)
      refine zv_ift (by decide) ?_
      iterate 1 (refine zv_step (bX6_sound 86) rfl rfl trivial ?_)
      exact zv_iret (bX6_sound 86) rfl (Or.inl rfl) (Nat.zero_le _) (Nat.zero_le _) ⟨O, P, _, rfl, rfl, fun _ _ => rfl, fun _ _ _ => rfl⟩
  · iterate 1 (refine zv_step (bX6_sound 86) rfl rfl trivial ?_)
    refine zv_ift (by decide) ?_
    iterate 1 (refine zv_step (bX6_sound 86) rfl rfl trivial ?_)
    exact zv_iret (bX6_sound 86) rfl (Or.inl rfl) (Nat.zero_le _) (Nat.zero_le _) ⟨O, P, _, rfl, rfl, fun _ _ => rfl, fun _ _ _ => rfl⟩

set_option maxHeartbeats 1000000 in
set_option maxRecDepth 20000 in
theorem cGlanceT (O : Nat → Int32) (P : Nat → Nat → Int32) (Y : Nat → Nat → Int64) (g : Nat → zC) {u : Nat} (hu : u ≤ 120) (h1 : O 1 = nI u) (hp : pgI u (P 2) (P 4) (P 5) (P 6)) {l : Nat} (hl : l ≤ 20) (hO : O 9 = nI l) {dd : Nat} (hd : dd < 40) (hO14 : O 14 = nI dd) (hb : O 13 = 0 ∨ O 13 = 1) (hr : O 13 = 1 → ∃ t, t < u ∧ rtN t dd (P 56)) (x n : Int32) : zK 30 zX6_glance [.ref 0, .int x, .int n] (wX O P Y g) (fun r w' => ∃ (O' : Nat → Int32) (P' : Nat → Nat → Int32) (R : Int32), r = some (.int R) ∧ w' = wX O' P' Y g ∧ spT O P O' P') := by
  refine zK_of qX6_glance (by decide +kernel) rfl ?_
  iterate 1 (refine zv_step (bX6_glance 30) rfl rfl trivial ?_)
  refine zv_S1 (bX6_glance 30) rfl rfl rfl rfl ⟨rfl, rfl, rfl⟩ ⟨by decide, by decide⟩ ⟨Nat.zero_le _, Nat.zero_le _⟩ (hX6_isStyle _ _) ?_
  rintro _ _ ⟨rfl, ⟨hx, rfl⟩ | ⟨hx, rfl⟩⟩
  · skip
    iterate 1 (refine zv_step (bX6_glance 30) rfl rfl trivial ?_)
    refine zv_iff (by decide) ?_
    iterate 2 (refine zv_step (bX6_glance 30) rfl rfl trivial ?_)
    refine zv_ifb (fun h8 => ?_) (fun h8 => ?_)
    · iterate 1 (refine zv_step (bX6_glance 30) rfl rfl trivial ?_)
      exact zv_iret (bX6_glance 30) rfl (Or.inl rfl) (Nat.zero_le _) (Nat.zero_le _) ⟨O, P, _, rfl, rfl, fun _ _ => rfl, fun _ _ _ => rfl⟩
    · iterate 3 (refine zv_step (bX6_glance 30) rfl rfl trivial ?_)
      refine zv_ifb (fun h14 => ?_) (fun h14 => ?_)
      · obtain ⟨m, hm, rfl⟩ : ∃ m : Nat, m ≤ 9 ∧ n = nI m := by
          have a1 : ¬ n < 0 := h8
          have a2 : n ≤ c8 9 := h14
          rw [Int32.lt_iff_toInt_lt, Int32.toInt_zero] at a1
          rw [show c8 9 = nI 9 from rfl, Int32.le_iff_toInt_le, nI_toInt (by decide)] at a2
          refine ⟨n.toInt.toNat, by omega, ?_⟩
          rw [← Int32.toInt_inj, nI_toInt (by omega)]
          omega
        iterate 2 (refine zv_step (bX6_glance 30) rfl rfl trivial ?_)
        refine zv_V0 (bX6_glance 30) rfl rfl rfl rfl rfl rfl rfl ⟨rfl, rfl, rfl⟩ ⟨by decide, by decide⟩ ⟨Nat.zero_le _, Nat.zero_le _⟩ (wBegun O P Y g hb) ?_
        rintro _ _ ⟨rfl, rfl⟩
        iterate 1 (refine zv_step (bX6_glance 30) rfl rfl trivial ?_)
        refine zv_ifb (fun h26 => ?_) (fun h26 => ?_)
        · obtain ⟨t, ht, hrt⟩ := hr (hb.resolve_left h26)
          obtain ⟨j, hjt, ej⟩ := hrt.2 dd (Nat.le_refl _)
          have hj : j < u := by omega
          iterate 6 (refine zv_step (bX6_glance 30) rfl rfl trivial ?_)
          refine zv_V0 (bX6_glance 30) rfl rfl rfl rfl rfl rfl rfl ⟨rfl, rfl, rfl⟩ ⟨by decide, by decide⟩ ⟨Nat.zero_le _, Nat.zero_le _⟩ (wHereX O P Y g hd hO14 ej) ?_
          rintro _ _ ⟨rfl, rfl⟩
          iterate 3 (refine zv_step (bX6_glance 30) rfl rfl trivial ?_)
          refine zv_step (bX6_glance 30) rfl rfl (vp_in_iff.mpr ⟨hx.1, Int.lt_of_le_of_lt hx.2 (by decide)⟩) ?_
          iterate 1 (refine zv_step (bX6_glance 30) rfl rfl trivial ?_)
          refine zv_V4 (bX6_glance 30) rfl rfl rfl rfl rfl rfl rfl ⟨rfl, rfl, rfl⟩ ⟨by show 2 * (m + 1) + 3 + 1 ≤ 30; omega, by show 8 + (5 + 11) + 64 * (2 * (m + 1) + 3) ≤ 64 * (30); omega⟩ ⟨Nat.zero_le _, Nat.zero_le _⟩ (sStyle27 O P Y g hu h1 hp hj (f := m + 1) (by omega) (sub_1 (b := m + 1) (by omega)).symm) ?_
          rintro _ _ ⟨rfl, rfl⟩
          generalize (tlW (O 1) (P 75 x.toNatClampNeg) (Int32.ofInt 0) P (m + 1) (nI j) (hbW (P 75 x.toNatClampNeg) (P 2 j))) = ws
          iterate 2 (refine zv_step (bX6_glance 30) rfl rfl trivial ?_)
          refine zv_V0 (bX6_glance 30) rfl rfl rfl rfl rfl rfl rfl ⟨rfl, rfl, rfl⟩ ⟨by decide, by decide⟩ ⟨Nat.zero_le _, Nat.zero_le _⟩ (sLong27 _ _ _ _) ?_
          rintro _ _ ⟨rfl, ⟨hg, rfl⟩ | ⟨hg, rfl⟩⟩
          · skip
            iterate 1 (refine zv_step (bX6_glance 30) rfl rfl trivial ?_)
            refine zv_iff (by decide) ?_
            iterate 2 (refine zv_step (bX6_glance 30) rfl rfl trivial ?_)
            exact zv_iret (bX6_glance 30) rfl (Or.inl rfl) (Nat.zero_le _) (Nat.zero_le _) ⟨_, _, _, rfl, rfl, spT_say _ _ _ _⟩
          · skip
            iterate 1 (refine zv_step (bX6_glance 30) rfl rfl trivial ?_)
            refine zv_ift (by decide) ?_
            iterate 3 (refine zv_step (bX6_glance 30) rfl rfl trivial ?_)
            exact zv_iret (bX6_glance 30) rfl (Or.inl rfl) (Nat.zero_le _) (Nat.zero_le _) ⟨_, _, _, rfl, rfl, spT_say _ _ _ _⟩
        · iterate 1 (refine zv_step (bX6_glance 30) rfl rfl trivial ?_)
          exact zv_iret (bX6_glance 30) rfl (Or.inl rfl) (Nat.zero_le _) (Nat.zero_le _) ⟨O, P, _, rfl, rfl, fun _ _ => rfl, fun _ _ _ => rfl⟩
      · iterate 1 (refine zv_step (bX6_glance 30) rfl rfl trivial ?_)
        exact zv_iret (bX6_glance 30) rfl (Or.inl rfl) (Nat.zero_le _) (Nat.zero_le _) ⟨O, P, _, rfl, rfl, fun _ _ => rfl, fun _ _ _ => rfl⟩
  · skip
    iterate 1 (refine zv_step (bX6_glance 30) rfl rfl trivial ?_)
    refine zv_ift (by decide) ?_
    iterate 1 (refine zv_step (bX6_glance 30) rfl rfl trivial ?_)
    exact zv_iret (bX6_glance 30) rfl (Or.inl rfl) (Nat.zero_le _) (Nat.zero_le _) ⟨O, P, _, rfl, rfl, fun _ _ => rfl, fun _ _ _ => rfl⟩
/-- but for the ways and their KINDS, all is as it was -/
def cFr (O : Nat → Int32) (P : Nat → Nat → Int32) (O' : Nat → Int32) (P' : Nat → Nat → Int32) : Prop := P' = P ∧ ∀ j, j ≠ 10 → j ≠ 11 → j ≠ 12 → O' j = O j
theorem cFr_refl (O : Nat → Int32) (P : Nat → Nat → Int32) : cFr O P O P := ⟨rfl, fun _ _ _ _ => rfl⟩
abbrev tQLF (O : Nat → Int32) (P : Nat → Nat → Int32) (Y : Nat → Nat → Int64) (o : Nat → Int32) (A : Nat → Nat → Int32) (J : Nat → Nat → Int64) : Option Value → zW → Prop := fun r w' => ∃ (O' : Nat → Int32) (P' : Nat → Nat → Int32) (Y' : Nat → Nat → Int64) (v : Int64), r = some (.long v) ∧ w' = wX O' P' Y' (gR o A J) ∧ (cInv O' P' Y' ∧ cFr O P O' P')
abbrev tQIF (O : Nat → Int32) (P : Nat → Nat → Int32) (Y : Nat → Nat → Int64) (o : Nat → Int32) (A : Nat → Nat → Int32) (J : Nat → Nat → Int64) : Option Value → zW → Prop := fun r w' => ∃ v : Int32, r = some (.int v) ∧ w' = (wX O P Y (gR o A J))
abbrev tXAF (O : Nat → Int32) (P : Nat → Nat → Int32) (Y : Nat → Nat → Int64) (o : Nat → Int32) (A : Nat → Nat → Int32) (J : Nat → Nat → Int64) : String → zW → Prop := fun E w' => E = "java/lang/IllegalArgumentException" ∧ w' = (wX O P Y (gR o A J))
abbrev tXSF (O : Nat → Int32) (P : Nat → Nat → Int32) (Y : Nat → Nat → Int64) (o : Nat → Int32) (A : Nat → Nat → Int32) (J : Nat → Nat → Int64) : String → zW → Prop := fun E w' => E = "java/lang/IllegalStateException" ∧ w' = (wX O P Y (gR o A J))
abbrev tXEF (O : Nat → Int32) (P : Nat → Nat → Int32) (Y : Nat → Nat → Int64) (o : Nat → Int32) (A : Nat → Nat → Int32) (J : Nat → Nat → Int64) : String → zW → Prop := fun E w' => (E = "java/lang/IllegalArgumentException" ∨ E = "java/lang/IllegalStateException") ∧ w' = (wX O P Y (gR o A J))
theorem bxRF (O : Nat → Int32) (P : Nat → Nat → Int32) (Y : Nat → Nat → Int64) (o : Nat → Int32) (A : Nat → Nat → Int32) (J : Nat → Nat → Int64) (n : Nat) : zTb (zMx 7 zX6_readings (tXAF O P Y o A J) (tQLF O P Y o A J) n) tX6_readings := ⟨fRX6, gRX6, oX6_readings⟩
theorem bxWF (O : Nat → Int32) (P : Nat → Nat → Int32) (Y : Nat → Nat → Int64) (o : Nat → Int32) (A : Nat → Nat → Int32) (J : Nat → Nat → Int64) (n : Nat) : zTb (zMx 7 zX6_where (tXSF O P Y o A J) (tQIF O P Y o A J) n) tX6_where := ⟨fRX6, gRX6, oX6_where⟩
theorem bxEF (O : Nat → Int32) (P : Nat → Nat → Int32) (Y : Nat → Nat → Int64) (o : Nat → Int32) (A : Nat → Nat → Int32) (J : Nat → Nat → Int64) (n : Nat) : zTb (zMx 7 zX6_element (tXEF O P Y o A J) (tQLF O P Y o A J) n) tX6_element := ⟨fRX6, gRX6, oX6_element⟩
set_option maxHeartbeats 1000000 in
set_option maxRecDepth 20000 in
theorem tReadingsF (O : Nat → Int32) (P : Nat → Nat → Int32) (Y : Nat → Nat → Int64) (o : Nat → Int32) (A : Nat → Nat → Int32) (J : Nat → Nat → Int64) {u l d : Nat} (hI : cI u l d O P Y) (x : Int32) : zKt 7 zX6_readings [.ref 0, .int x] (wX O P Y (gR o A J)) (tQLF O P Y o A J) (tXAF O P Y o A J) := by
  refine zKt_of (by decide +kernel) rfl ?_
  iterate 1 (refine zv_step (bxRF O P Y o A J _) rfl rfl trivial ?_)
  refine zv_S1 (bxRF O P Y o A J _) rfl rfl rfl rfl ⟨rfl, rfl, rfl⟩ ⟨Nat.le_of_ble_eq_true rfl, Nat.le_of_ble_eq_true rfl⟩ ⟨Nat.zero_le _, Nat.zero_le _⟩ (hX6_isStyleOrFree _ _) ?_
  rintro _ _ ⟨rfl, ⟨hh, rfl⟩ | ⟨hh, rfl⟩⟩
  · skip
    iterate 1 (refine zv_step (bxRF O P Y o A J _) rfl rfl trivial ?_)
    refine zv_ift (by decide) ?_
    iterate 2 (refine zv_step (bxRF O P Y o A J _) rfl rfl trivial ?_)
    refine zv_V1 (bxRF O P Y o A J _) rfl rfl rfl rfl rfl rfl rfl ⟨rfl, rfl, rfl⟩ ⟨Nat.le_of_ble_eq_true rfl, Nat.le_of_ble_eq_true rfl⟩ ⟨Nat.zero_le _, Nat.zero_le _⟩ (cTallyIn O P Y (gR o A J) hI.2.2.2.1 hI.2.2.2.2.1 hh) ?_
    rintro _ _ ⟨a, b, Y', v, rfl, rfl, hY⟩
    exact zv_lret (bxRF O P Y o A J _) rfl rfl (Nat.zero_le _) (Nat.zero_le _) ⟨_, P, Y', v, rfl, rfl, (cI_ty hI hY (fun j a b c => by rw [upd_ne _ _ c, upd_ne _ _ b, upd_ne _ _ a])).1, rfl, (fun j a b c => by rw [upd_ne _ _ c, upd_ne _ _ b, upd_ne _ _ a])⟩
  · skip
    iterate 1 (refine zv_step (bxRF O P Y o A J _) rfl rfl trivial ?_)
    refine zv_iff (by decide) ?_
    exact zv_throwS (text := "no such style") (names := ["java/lang/RuntimeException", "java/lang/Exception"]) (by decide +kernel) (by decide +kernel) (by decide +kernel) (by decide +kernel) (by decide +kernel) fIAE kIAE aIAE gIAE (fun A U H h => ⟨h.2.2.1, h.2.2.2.2.2.2.2.1⟩) ⟨by decide, by decide⟩ ⟨rfl, rfl⟩
set_option maxHeartbeats 1000000 in
set_option maxRecDepth 20000 in
theorem tWhereF (O : Nat → Int32) (P : Nat → Nat → Int32) (Y : Nat → Nat → Int64) (o : Nat → Int32) (A : Nat → Nat → Int32) (J : Nat → Nat → Int64) {u l d : Nat} (hI : cI u l d O P Y) (x : Int32) : zKt 7 zX6_where [.ref 0, .int x] (wX O P Y (gR o A J)) (tQIF O P Y o A J) (tXSF O P Y o A J) := by
  refine zKt_of (by decide +kernel) rfl ?_
  iterate 2 (refine zv_step (bxWF O P Y o A J _) rfl rfl trivial ?_)
  refine zv_ifb (fun h1 => ?_) (fun h1 => ?_)
  · iterate 1 (refine zv_step (bxWF O P Y o A J _) rfl rfl trivial ?_)
    exact zv_iret (bxWF O P Y o A J _) rfl (Or.inl rfl) (Nat.zero_le _) (Nat.zero_le _) ⟨_, rfl, rfl⟩
  · iterate 3 (refine zv_step (bxWF O P Y o A J _) rfl rfl trivial ?_)
    refine zv_ifb (fun h6 => ?_) (fun h6 => ?_)
    · iterate 2 (refine zv_step (bxWF O P Y o A J _) rfl rfl trivial ?_)
      refine zv_V0 (bxWF O P Y o A J _) rfl rfl rfl rfl rfl rfl rfl ⟨rfl, rfl, rfl⟩ ⟨Nat.le_of_ble_eq_true rfl, Nat.le_of_ble_eq_true rfl⟩ ⟨Nat.zero_le _, Nat.zero_le _⟩ (wBegun O P Y (gR o A J) hI.2.2.2.2.2.2.2.2.1) ?_
      rintro _ _ ⟨rfl, rfl⟩
      iterate 1 (refine zv_step (bxWF O P Y o A J _) rfl rfl trivial ?_)
      refine zv_ifb (fun h18 => ?_) (fun h18 => ?_)
      · iterate 3 (refine zv_step (bxWF O P Y o A J _) rfl rfl trivial ?_)
        refine zv_ifb (fun h26 => ?_) (fun h26 => ?_)
        · iterate 3 (refine zv_step (bxWF O P Y o A J _) rfl rfl trivial ?_)
          refine zv_ifb (fun h39 => ?_) (fun h39 => ?_)
          · iterate 5 (refine zv_step (bxWF O P Y o A J _) rfl rfl trivial ?_)
            refine zv_ifb (fun h59 => ?_) (fun h59 => ?_)
            · iterate 2 (refine zv_step (bxWF O P Y o A J _) rfl rfl trivial ?_)
              refine zv_V0 (bxWF O P Y o A J _) rfl rfl rfl rfl rfl rfl rfl ⟨rfl, rfl, rfl⟩ ⟨Nat.le_of_ble_eq_true rfl, Nat.le_of_ble_eq_true rfl⟩ ⟨Nat.zero_le _, Nat.zero_le _⟩ (wNum O P Y (gR o A J) hI.2.2.2.2.2.2.1 hI.2.2.2.2.2.2.2.1) ?_
              rintro _ _ ⟨rfl, rfl⟩
              exact zv_iret (bxWF O P Y o A J _) rfl (Or.inl rfl) (Nat.zero_le _) (Nat.zero_le _) ⟨_, rfl, rfl⟩
            · exact zv_throwS (text := "the walk is too deep for a path") (names := ["java/lang/RuntimeException", "java/lang/Exception"]) (by decide +kernel) (by decide +kernel) (by decide +kernel) (by decide +kernel) (by decide +kernel) fISE kISE aISE gISE (fun A U H h => ⟨h.2.2.2.2.2.2.1, h.2.2.2.2.2.2.2.2.1⟩) ⟨by decide, by decide⟩ ⟨rfl, rfl⟩
          · iterate 2 (refine zv_step (bxWF O P Y o A J _) rfl rfl trivial ?_)
            refine zv_V0 (bxWF O P Y o A J _) rfl rfl rfl rfl rfl rfl rfl ⟨rfl, rfl, rfl⟩ ⟨Nat.le_of_ble_eq_true rfl, Nat.le_of_ble_eq_true rfl⟩ ⟨Nat.zero_le _, Nat.zero_le _⟩ (wHereG O P Y (gR o A J) hI.2.2.2.2.2.2.1 hI.2.2.2.2.2.2.2.1) ?_
            rintro _ _ ⟨rfl, rfl⟩
            exact zv_iret (bxWF O P Y o A J _) rfl (Or.inl rfl) (Nat.zero_le _) (Nat.zero_le _) ⟨_, rfl, rfl⟩
        · iterate 3 (refine zv_step (bxWF O P Y o A J _) rfl rfl trivial ?_)
          exact zv_iret (bxWF O P Y o A J _) rfl (Or.inl rfl) (Nat.zero_le _) (Nat.zero_le _) ⟨_, rfl, rfl⟩
      · iterate 1 (refine zv_step (bxWF O P Y o A J _) rfl rfl trivial ?_)
        exact zv_iret (bxWF O P Y o A J _) rfl (Or.inl rfl) (Nat.zero_le _) (Nat.zero_le _) ⟨_, rfl, rfl⟩
    · iterate 1 (refine zv_step (bxWF O P Y o A J _) rfl rfl trivial ?_)
      exact zv_iret (bxWF O P Y o A J _) rfl (Or.inl rfl) (Nat.zero_le _) (Nat.zero_le _) ⟨_, rfl, rfl⟩
set_option maxHeartbeats 1000000 in
set_option maxRecDepth 20000 in
theorem tElementF (O : Nat → Int32) (P : Nat → Nat → Int32) (Y : Nat → Nat → Int64) (o : Nat → Int32) (A : Nat → Nat → Int32) (J : Nat → Nat → Int64) {u l d : Nat} (hI : cI u l d O P Y) (x i : Int32) : zKt 7 zX6_element [.ref 0, .int x, .int i] (wX O P Y (gR o A J)) (tQLF O P Y o A J) (tXEF O P Y o A J) := by
  refine zKt_of (by decide +kernel) rfl ?_
  iterate 1 (refine zv_step (bxEF O P Y o A J _) rfl rfl trivial ?_)
  refine zv_S1 (bxEF O P Y o A J _) rfl rfl rfl rfl ⟨rfl, rfl, rfl⟩ ⟨Nat.le_of_ble_eq_true rfl, Nat.le_of_ble_eq_true rfl⟩ ⟨Nat.zero_le _, Nat.zero_le _⟩ (hX6_isShelf _ _) ?_
  rintro _ _ ⟨rfl, ⟨q1, rfl⟩ | ⟨q1, rfl⟩⟩
  · obtain ⟨s, hs, rfl⟩ := sh_of q1
    iterate 1 (refine zv_step (bxEF O P Y o A J _) rfl rfl trivial ?_)
    refine zv_ift (by decide) ?_
    iterate 1 (refine zv_step (bxEF O P Y o A J _) rfl rfl trivial ?_)
    refine zv_getf (bxEF O P Y o A J _) rfl (rfl) rfl ?_
    iterate 1 (refine zv_step (bxEF O P Y o A J _) rfl rfl trivial ?_)
    refine zv_aald (bxEF O P Y o A J _) rfl (Or.inl rfl) rfl (show vp_in (nI s) 8 from vp_in_nI (by omega) (by decide)) (show ([some 59, some 61, some 63, some 65, some 67, some 69, some 71, some 73] : List (Option Nat)).getD (nI s).toNatClampNeg none = some (59 + 2 * s) by rw [nI_clamp (by omega)]; exact dSs hs) ?_
    iterate 2 (refine zv_step (bxEF O P Y o A J _) rfl rfl trivial ?_)
    refine zv_V0 (bxEF O P Y o A J _) rfl rfl rfl (wS O P Y (gR o A J) hs) rfl rfl rfl ⟨rfl, rfl, rfl⟩ ⟨Nat.le_of_ble_eq_true rfl, Nat.le_of_ble_eq_true rfl⟩ ⟨Nat.zero_le _, Nat.zero_le _⟩ (hHasRow O P Y (gR o A J) hs) ?_
    rintro _ _ ⟨rfl, ⟨q3, rfl⟩ | ⟨q3, rfl⟩⟩
    · skip
      iterate 1 (refine zv_step (bxEF O P Y o A J _) rfl rfl trivial ?_)
      refine zv_ift (by decide) ?_
      iterate 3 (refine zv_step (bxEF O P Y o A J _) rfl rfl trivial ?_)
      refine zv_V2 (bxEF O P Y o A J _) rfl rfl rfl (wS O P Y (gR o A J) hs) rfl rfl rfl ⟨rfl, rfl, rfl⟩ ⟨Nat.le_of_ble_eq_true rfl, Nat.le_of_ble_eq_true rfl⟩ ⟨Nat.zero_le _, Nat.zero_le _⟩ (hHasSpan O P Y (gR o A J) hs _ _) ?_
      rintro _ _ ⟨rfl, ⟨q4, rfl⟩ | ⟨q4, rfl⟩⟩
      · skip
        iterate 1 (refine zv_step (bxEF O P Y o A J _) rfl rfl trivial ?_)
        refine zv_ift (by decide) ?_
        iterate 1 (refine zv_step (bxEF O P Y o A J _) rfl rfl trivial ?_)
        refine zv_getf (bxEF O P Y o A J _) rfl (wS O P Y (gR o A J) hs) rfl ?_
        iterate 1 (refine zv_step (bxEF O P Y o A J _) rfl rfl trivial ?_)
        obtain ⟨m, hm, em⟩ := hI.2.2.2.2.2.2.2.2.2.2 s hs
        rw [em] at q4
        have k4 := (span_le hm q4).1
        refine zv_iald (bxEF O P Y o A J _) rfl (wSr O P Y (gR o A J) hs) (vp_in_iff.mpr (by have a1 := q4.1; rw [Int32.le_iff_toInt_le, Int32.toInt_zero] at a1; have k5 : i.toInt.toNat + (Int32.ofInt 1).toNatClampNeg ≤ 60 := k4; rw [show (Int32.ofInt 1).toNatClampNeg = 1 from rfl] at k5; omega)) ?_
        iterate 1 (refine zv_step (bxEF O P Y o A J _) rfl rfl trivial ?_)
        exact zv_lret (bxEF O P Y o A J _) rfl rfl (Nat.zero_le _) (Nat.zero_le _) ⟨O, P, Y, _, rfl, rfl, ⟨u, l, d, hI⟩, cFr_refl O P⟩
      · skip
        iterate 1 (refine zv_step (bxEF O P Y o A J _) rfl rfl trivial ?_)
        refine zv_iff (by decide) ?_
        exact zv_throwSW (text := "the row has no such place") (names := ["java/lang/RuntimeException", "java/lang/Exception"]) (by decide +kernel) (by decide +kernel) (by decide +kernel) (by decide +kernel) (by decide +kernel) fISE kISE aISE gISE (fun A U H h => ⟨h.2.2.2.2.2.1, h.2.2.2.2.2.2.2.2.1⟩) ⟨by decide, by decide⟩ ⟨Or.inr rfl, rfl⟩
    · skip
      iterate 1 (refine zv_step (bxEF O P Y o A J _) rfl rfl trivial ?_)
      refine zv_iff (by decide) ?_
      exact zv_throwSW (text := "the shelf holds no row") (names := ["java/lang/RuntimeException", "java/lang/Exception"]) (by decide +kernel) (by decide +kernel) (by decide +kernel) (by decide +kernel) (by decide +kernel) fISE kISE aISE gISE (fun A U H h => ⟨h.2.2.2.2.1, h.2.2.2.2.2.2.2.2.1⟩) ⟨by decide, by decide⟩ ⟨Or.inr rfl, rfl⟩
  · skip
    iterate 1 (refine zv_step (bxEF O P Y o A J _) rfl rfl trivial ?_)
    refine zv_iff (by decide) ?_
    exact zv_throwSW (text := "no such shelf") (names := ["java/lang/RuntimeException", "java/lang/Exception"]) (by decide +kernel) (by decide +kernel) (by decide +kernel) (by decide +kernel) (by decide +kernel) fIAE kIAE aIAE gIAE (fun A U H h => ⟨h.2.2.2.1, h.2.2.2.2.2.2.2.1⟩) ⟨by decide, by decide⟩ ⟨Or.inl rfl, rfl⟩
set_option maxHeartbeats 1000000 in
set_option maxRecDepth 20000 in
theorem hL_readingsF (O : Nat → Int32) (P : Nat → Nat → Int32) (Y : Nat → Nat → Int64) (o : Nat → Int32) (A : Nat → Nat → Int32) (J : Nat → Nat → Int64) {u l d : Nat} (hI : cI u l d O P Y) (x : Int32) : zKh 9 zL_readings [(0, 8, 11, 13)] [.ref 0, .int x, .ref 99] (wX O P Y (gR o A J)) (fun r w' => (∃ R : Int32, r = some (.int R)) ∧ ∃ (O' : Nat → Int32) (P' : Nat → Nat → Int32) (Y' : Nat → Nat → Int64) (J' : Nat → Nat → Int64), w' = wX O' P' Y' (gR o A J') ∧ (cInv O' P' Y' ∧ cFr O P O' P')) := by
  refine zKh_of (by decide +kernel) rfl ?_
  iterate 4 (refine zv_step bL_readings rfl rfl trivial ?_)
  refine zv_callX bL_readings rfl rfl (As := [.int x]) (rest := [.int (Int32.ofInt 0), .ref 99]) rfl rfl rfl rfl rfl rfl (by decide) ⟨by decide, by decide⟩ (tReadingsF O P Y o A J hI x) ?_ ?_
  · rintro _ _ ⟨O', P', Y', v, rfl, rfl, hc⟩
    refine zv_last bL_readings rfl (show (wX O' P' Y' (gR o A J))[99]? = some (zJ 1 (J 2)) from rfl) (show vp_in (nI 0) 1 from vp_in_nI (by decide) (by decide)) ?_
    refine zv_world (show _ = wX O' P' Y' (gR o A (updJ J 2 (vp_updL (J 2) (Int32.ofInt 0).toNatClampNeg v))) from rfl) ?_
    iterate 2 (refine zv_step bL_readings rfl rfl trivial ?_)
    exact zv_iret bL_readings rfl (Or.inl rfl) (Nat.le_refl 1) (Nat.le_refl 6) ⟨⟨_, rfl⟩, O', P', Y', _, rfl, hc⟩
  · rintro E _ ⟨rfl, rfl⟩
    refine ⟨3, 12, ⟨[], ⟨0, 8, 11, 13⟩, [], "java/lang/IllegalArgumentException", rfl, fun y h => absurd h List.not_mem_nil, by decide, by decide, cl13, fun A U H h => h.2.2.2.2.2.2.2.1, by decide, Or.inl ⟨3, rfl, by decide +kernel, rfl⟩⟩, ?_⟩
    iterate 1 (refine zv_step bL_readings rfl rfl trivial ?_)
    exact zv_iret bL_readings rfl (Or.inl rfl) (Nat.le_refl 1) (Nat.le_refl 6) ⟨⟨_, rfl⟩, O, P, Y, J, rfl, ⟨u, l, d, hI⟩, cFr_refl O P⟩
set_option maxHeartbeats 1000000 in
set_option maxRecDepth 20000 in
theorem hL_whereF (O : Nat → Int32) (P : Nat → Nat → Int32) (Y : Nat → Nat → Int64) (o : Nat → Int32) (A : Nat → Nat → Int32) (J : Nat → Nat → Int64) {u l d : Nat} (hI : cI u l d O P Y) (x : Int32) : zKh 9 zL_where [(0, 9, 12, 19)] [.ref 0, .int x, .ref 99] (wX O P Y (gR o A J)) (fun r w' => (∃ R : Int32, r = some (.int R)) ∧ ∃ (O' : Nat → Int32) (P' : Nat → Nat → Int32) (Y' : Nat → Nat → Int64) (J' : Nat → Nat → Int64), w' = wX O' P' Y' (gR o A J') ∧ (cInv O' P' Y' ∧ cFr O P O' P')) := by
  refine zKh_of (by decide +kernel) rfl ?_
  iterate 4 (refine zv_step bL_where rfl rfl trivial ?_)
  refine zv_callX bL_where rfl rfl (As := [.int x]) (rest := [.int (Int32.ofInt 0), .ref 99]) rfl rfl rfl rfl rfl rfl (by decide) ⟨by decide, by decide⟩ (tWhereF O P Y o A J hI x) ?_ ?_
  · rintro _ _ ⟨v, rfl, rfl⟩
    iterate 1 (refine zv_step bL_where rfl rfl trivial ?_)
    refine zv_last bL_where rfl (show (wX O P Y (gR o A J))[99]? = some (zJ 1 (J 2)) from rfl) (show vp_in (nI 0) 1 from vp_in_nI (by decide) (by decide)) ?_
    refine zv_world (show _ = wX O P Y (gR o A (updJ J 2 (vp_updL (J 2) (Int32.ofInt 0).toNatClampNeg v.toInt64))) from rfl) ?_
    iterate 2 (refine zv_step bL_where rfl rfl trivial ?_)
    exact zv_iret bL_where rfl (Or.inl rfl) (Nat.le_refl 1) (Nat.le_refl 6) ⟨⟨_, rfl⟩, O, P, Y, _, rfl, ⟨u, l, d, hI⟩, cFr_refl O P⟩
  · rintro E _ ⟨rfl, rfl⟩
    refine ⟨3, 13, ⟨[], ⟨0, 9, 12, 19⟩, [], "java/lang/IllegalStateException", rfl, fun y h => absurd h List.not_mem_nil, by decide, by decide, cl19, fun A U H h => h.2.2.2.2.2.2.2.2.1, by decide, Or.inl ⟨3, rfl, by decide +kernel, rfl⟩⟩, ?_⟩
    iterate 1 (refine zv_step bL_where rfl rfl trivial ?_)
    exact zv_iret bL_where rfl (Or.inl rfl) (Nat.le_refl 1) (Nat.le_refl 6) ⟨⟨_, rfl⟩, O, P, Y, J, rfl, ⟨u, l, d, hI⟩, cFr_refl O P⟩
set_option maxHeartbeats 1000000 in
set_option maxRecDepth 20000 in
theorem hL_elementF (O : Nat → Int32) (P : Nat → Nat → Int32) (Y : Nat → Nat → Int64) (o : Nat → Int32) (A : Nat → Nat → Int32) (J : Nat → Nat → Int64) {u l d : Nat} (hI : cI u l d O P Y) (x i : Int32) : zKh 9 zL_element [(0, 9, 12, 13), (0, 9, 16, 19)] [.ref 0, .int x, .int i, .ref 99] (wX O P Y (gR o A J)) (fun r w' => (∃ R : Int32, r = some (.int R)) ∧ ∃ (O' : Nat → Int32) (P' : Nat → Nat → Int32) (Y' : Nat → Nat → Int64) (J' : Nat → Nat → Int64), w' = wX O' P' Y' (gR o A J') ∧ (cInv O' P' Y' ∧ cFr O P O' P')) := by
  refine zKh_of (by decide +kernel) rfl ?_
  iterate 5 (refine zv_step bL_element rfl rfl trivial ?_)
  refine zv_callX bL_element rfl rfl (As := [.int x, .int i]) (rest := [.int (Int32.ofInt 0), .ref 99]) rfl rfl rfl rfl rfl rfl (by decide) ⟨by decide, by decide⟩ (tElementF O P Y o A J hI x i) ?_ ?_
  · rintro _ _ ⟨O', P', Y', v, rfl, rfl, hc⟩
    refine zv_last bL_element rfl (show (wX O' P' Y' (gR o A J))[99]? = some (zJ 1 (J 2)) from rfl) (show vp_in (nI 0) 1 from vp_in_nI (by decide) (by decide)) ?_
    refine zv_world (show _ = wX O' P' Y' (gR o A (updJ J 2 (vp_updL (J 2) (Int32.ofInt 0).toNatClampNeg v))) from rfl) ?_
    iterate 2 (refine zv_step bL_element rfl rfl trivial ?_)
    exact zv_iret bL_element rfl (Or.inl rfl) (Nat.le_refl 1) (Nat.le_refl 6) ⟨⟨_, rfl⟩, O', P', Y', _, rfl, hc⟩
  · rintro E _ ⟨rfl | rfl, rfl⟩
    · refine ⟨4, 14, ⟨[], ⟨0, 9, 12, 13⟩, [⟨0, 9, 16, 19⟩], "java/lang/IllegalArgumentException", rfl, fun y h => absurd h List.not_mem_nil, by decide, by decide, cl13, fun A U H h => h.2.2.2.2.2.2.2.1, by decide, Or.inr ⟨by decide +kernel, rfl⟩⟩, ?_⟩
      iterate 1 (refine zv_step bL_element rfl rfl trivial ?_)
      exact zv_iret bL_element rfl (Or.inl rfl) (Nat.le_refl 1) (Nat.le_refl 6) ⟨⟨_, rfl⟩, O, P, Y, J, rfl, ⟨u, l, d, hI⟩, cFr_refl O P⟩
    · refine ⟨4, 18, ⟨[⟨0, 9, 12, 13⟩], ⟨0, 9, 16, 19⟩, [], "java/lang/IllegalStateException", rfl, fun y h => Or.inr (by
        cases h with
        | head => exact ⟨by decide, "java/lang/IllegalArgumentException", cl13, fun A U H h => h.2.2.2.2.2.2.2.2.2⟩
        | tail _ h => cases h), by decide, by decide, cl19, fun A U H h => h.2.2.2.2.2.2.2.2.1, by decide, Or.inr ⟨by decide +kernel, rfl⟩⟩, ?_⟩
      iterate 1 (refine zv_step bL_element rfl rfl trivial ?_)
      exact zv_iret bL_element rfl (Or.inl rfl) (Nat.le_refl 1) (Nat.le_refl 6) ⟨⟨_, rfl⟩, O, P, Y, J, rfl, ⟨u, l, d, hI⟩, cFr_refl O P⟩
end
