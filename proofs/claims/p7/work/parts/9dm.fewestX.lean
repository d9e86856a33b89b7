set_option maxRecDepth 100000 in
theorem pc_le : ∀ N, N ≤ 8 → ∀ w, w < 2 ^ N → pcL w 8 ≤ N := by decide +kernel
/-- what fewest answers for a NODE that it tries: the fewest words that leave no doubt, or -2 and THE EAR as before -/
def fwO (A0 : Nat → Nat → Int32) (n N bf : Nat) (o' : Nat → Int32) (A' : Nat → Nat → Int32) (R : Int32) : Prop :=
  (∃ w, w < 2 ^ N ∧ gdW A0 n N w ∧ (∀ w', w' < 2 ^ N → gdW A0 n N w' → pcL w 8 ≤ pcL w' 8) ∧ R = nI (wdF A0 (btN w N) 40 (nI n) 0).length ∧ o' 10 = nI (wdF A0 (btN w N) 40 (nI n) 0).length ∧ hasW (A' 8) (wdF A0 (btN w N) 40 (nI n) 0)) ∨
  ((∀ w, w < 2 ^ N → ¬ gdW A0 n N w) ∧ R = c8 (-2) ∧ o' 10 = nI bf ∧ ∀ i, i < bf → A' 8 i = A0 8 i)
set_option maxHeartbeats 1000000 in
set_option maxRecDepth 20000 in
theorem fewRX (f : Nat → zC) (o : Nat → Int32) (A : Nat → Nat → Int32) (J : Nat → Nat → Int64) {o0 : Nat → Int32} {A0 : Nat → Nat → Int32} {bf u n N : Nat} (hbf : bf ≤ 20) (hF : fS o0 A0 bf o A) (h15 : ∀ i, i < bf → A 15 i = A0 8 i) (hno : ∀ w, w < 2 ^ N → ¬ gdW A0 n N w) {n0 : Nat} : ∀ (c i : Nat), i + c = bf → ∀ {x4 : Int32}, x4 = nI i → zV (zMo 44 zX7_fewest) false n0 0 0 141 [(4, .int x4), (3, .int (nI bf)), (2, .int (nI N)), (0, .ref 76), (1, .int (nI n))] [] (wR f o (updA A 8 (cpR (A 8) (A 15) i)) J) (fun r w' => ∃ (o' : Nat → Int32) (A' : Nat → Nat → Int32) (J' : Nat → Nat → Int64) (R : Int32), r = some (.int R) ∧ w' = wR f o' A' J' ∧ fwX o0 A0 o' A' ∧ fwO A0 n N bf o' A' R) := by
  intro c
  induction c with
  | zero =>
    intro i hi x4 e4
    subst e4
    iterate 3 (refine zv_step (bX7_fewest 44) rfl rfl trivial ?_)
    refine zv_ift (nI_le (by omega) (by omega)) ?_
    iterate 4 (refine zv_step (bX7_fewest 44) rfl rfl trivial ?_)
    exact zv_iret (bX7_fewest 44) rfl (Or.inl rfl) (Nat.zero_le _) (Nat.zero_le _) ⟨upd o 10 (nI bf), updA A 8 (cpR (A 8) (A 15) i), J, _, rfl, rfl, ⟨⟨bf, hbf, upd_self _ _ _, by rw [updA_self, show i = bf by omega]; exact fun j hj => by rw [show cpR (A 8) (A 15) bf j = A 15 j from if_pos hj]; exact hF.2.2.1 j hj⟩, fun j a b c => (upd_ne _ _ a).trans (hF.1 j a b c), fun r a b c => (updA_ne _ _ a).trans (hF.2.1 r a b c)⟩, Or.inr ⟨hno, rfl, upd_self _ _ _, fun j hj => by rw [updA_self, show i = bf by omega, show cpR (A 8) (A 15) bf j = A 15 j from if_pos hj]; exact h15 j hj⟩⟩
  | succ c ih =>
    intro i hi x4 e4
    subst e4
    iterate 3 (refine zv_step (bX7_fewest 44) rfl rfl trivial ?_)
    refine zv_iff (fun h => absurd ((nI_leI (by omega) (by omega)).mp h) (by omega)) ?_
    iterate 6 (refine zv_step (bX7_fewest 44) rfl rfl trivial ?_)
    refine zv_iale (bX7_fewest 44) rfl rfl (vp_in_nI (by omega) (by decide)) (show (updA A 8 (cpR (A 8) (A 15) i)) 15 (nI i).toNatClampNeg = A 15 i by rw [updA_ne _ _ (by decide), nI_clamp (by omega)]) ?_
    refine zv_step (bX7_fewest 44) rfl rfl (vp_in_nI (by omega) (by decide)) ?_
    iterate 2 (refine zv_step (bX7_fewest 44) rfl rfl trivial ?_)
    refine zv_world (show _ = wR f o (updA A 8 (cpR (A 8) (A 15) (i + 1))) J from by rw [← cpR_s, show upd (cpR (A 8) (A 15) i) i (A 15 i) = upd (cpR (A 8) (A 15) i) (nI i).toNatClampNeg (A 15 i) by rw [nI_clamp (by omega)]]; rfl) ?_
    exact ih (i + 1) (by omega) (nI_1 i)
set_option maxHeartbeats 1000000 in
set_option maxRecDepth 20000 in
theorem fewWX (f : Nat → zC) {o0 : Nat → Int32} {A0 : Nat → Nat → Int32} {bf u n N : Nat} (hbf : bf ≤ 20) (hu : u ≤ 120) (hT0 : tbI 0 u A0) (hz0 : kp0 A0) (hn : n < u) (hr0 : rtW A0 40 (nI n)) (hN : N ≤ 8) (hkb : kbW A0 40 (nI n) = N) {c n0 : Nat} (hc8 : c ≤ 9) (hge : (∀ w', w' < 2 ^ N → gdW A0 n N w' → c ≤ pcL w' 8)) (kk : ∀ (o : Nat → Int32) (A : Nat → Nat → Int32) (J : Nat → Nat → Int64), fS o0 A0 bf o A → (∀ i, i < bf → A 15 i = A0 8 i) → (∀ w', w' < 2 ^ N → gdW A0 n N w' → c + 1 ≤ pcL w' 8) → zV (zMo 44 zX7_fewest) false n0 0 0 132 [(4, .int (nI c)), (3, .int (nI bf)), (2, .int (nI N)), (0, .ref 76), (1, .int (nI n))] [] (wR f o A J) (fun r w' => ∃ (o' : Nat → Int32) (A' : Nat → Nat → Int32) (J' : Nat → Nat → Int64) (R : Int32), r = some (.int R) ∧ w' = wR f o' A' J' ∧ fwX o0 A0 o' A' ∧ fwO A0 n N bf o' A' R)) : ∀ (v w : Nat) (o : Nat → Int32) (A : Nat → Nat → Int32) (J : Nat → Nat → Int64), fS o0 A0 bf o A → (∀ i, i < bf → A 15 i = A0 8 i) → w + v = 2 ^ N → w ≤ 2 ^ N → (∀ w', w' < w → pcL w' 8 = c → ¬ gdW A0 n N w') → ∀ {y : Int32}, y = nI w → zV (zMo 44 zX7_fewest) false n0 0 0 92 [(5, .int y), (4, .int (nI c)), (3, .int (nI bf)), (2, .int (nI N)), (0, .ref 76), (1, .int (nI n))] [] (wR f o A J) (fun r w' => ∃ (o' : Nat → Int32) (A' : Nat → Nat → Int32) (J' : Nat → Nat → Int64) (R : Int32), r = some (.int R) ∧ w' = wR f o' A' J' ∧ fwX o0 A0 o' A' ∧ fwO A0 n N bf o' A' R) := by
  have h2N : 2 ^ N ≤ 256 := Nat.le_trans (Nat.pow_le_pow_right (by decide) hN) (by decide)
  intro v
  induction v with
  | zero =>
    intro w o A J hF h15 hv hwl hw y ey
    subst ey
    iterate 5 (refine zv_step (bX7_fewest 44) rfl rfl trivial ?_)
    refine zv_ift (show (Int32.ofInt 1 <<< (nI N &&& 31)) ≤ nI w by rw [show Int32.ofInt 1 <<< (nI N &&& 31) = nI (2 ^ N) from shl_k N (by omega), nI_leI (by omega) (by omega)]; omega) ?_
    refine zv_locals (l := [(5, .int (nI w)), (4, .int (nI c)), (3, .int (nI bf)), (2, .int (nI N)), (0, .ref 76), (1, .int (nI n))]) (l' := [(4, .int (nI c)), (3, .int (nI bf)), (2, .int (nI N)), (0, .ref 76), (1, .int (nI n))]) ?_ (kk o A J hF h15 (fun w' h1 h2 => by
      have a1 := hge w' h1 h2
      have a2 : ¬ pcL w' 8 = c := fun e => hw w' (by omega) e h2
      omega))
    simp
  | succ v ih =>
    intro w o A J hF h15 hv hwl hw y ey
    subst ey
    iterate 5 (refine zv_step (bX7_fewest 44) rfl rfl trivial ?_)
    refine zv_iff (show ¬ (Int32.ofInt 1 <<< (nI N &&& 31)) ≤ nI w by rw [show Int32.ofInt 1 <<< (nI N &&& 31) = nI (2 ^ N) from shl_k N (by omega), nI_leI (by omega) (by omega)]; omega) ?_
    iterate 1 (refine zv_step (bX7_fewest 44) rfl rfl trivial ?_)
    refine zv_S1 (bX7_fewest 44) rfl rfl rfl rfl ⟨rfl, rfl, rfl⟩ ⟨by decide, by decide⟩ ⟨Nat.zero_le _, Nat.zero_le _⟩ (mBitsX _ (show w < 256 by omega) rfl) ?_
    rintro _ _ ⟨rfl, rfl⟩
    iterate 2 (refine zv_step (bX7_fewest 44) rfl rfl trivial ?_)
    refine zv_ifb (fun h107 => ?_) (fun h107 => ?_)
    · have q107 : ¬ pcL w 8 = c := fun e => h107 (by rw [e])
      iterate 2 (refine zv_step (bX7_fewest 44) rfl rfl trivial ?_)
      exact ih (w + 1) o A J hF h15 (by omega) (by omega) (fun w' hw' e => by
        by_cases q : w' = w
        · subst q
          exact absurd e q107
        · exact hw w' (by omega) e) (nI_1 w)
    · have q107 : pcL w 8 = c := (nI_eq (by have := pc_le N hN w (by omega); omega) (by omega)).mp (Decidable.not_not.mp h107)
      iterate 4 (refine zv_step (bX7_fewest 44) rfl rfl trivial ?_)
      refine zv_V3 (bX7_fewest 44) rfl rfl rfl rfl rfl rfl rfl ⟨rfl, rfl, rfl⟩ ⟨by decide, by decide⟩ ⟨Nat.zero_le _, Nat.zero_le _⟩ (mIsOnlyX f o A J hu hT0 hz0 hn hr0 (w := w) (by omega) hN hkb hF rfl rfl) ?_
      rintro _ _ ⟨o1, A1, J1, rfl, hF1, h15b, ⟨g1, rfl, g2, g3⟩ | ⟨g1, rfl⟩⟩
      · skip
        iterate 1 (refine zv_step (bX7_fewest 44) rfl rfl trivial ?_)
        refine zv_iff (by decide) ?_
        iterate 2 (refine zv_step (bX7_fewest 44) rfl rfl trivial ?_)
        exact zv_iret (bX7_fewest 44) rfl (Or.inl rfl) (Nat.zero_le _) (Nat.zero_le _) ⟨o1, A1, J1, _, congrArg (fun v => some (Value.int v)) g2, rfl, fwX_S hF1, Or.inl ⟨w, by omega, g1, fun w' h1 h2 => by rw [q107]; exact hge w' h1 h2, rfl, g2, g3⟩⟩
      · skip
        iterate 1 (refine zv_step (bX7_fewest 44) rfl rfl trivial ?_)
        refine zv_ift (by decide) ?_
        iterate 2 (refine zv_step (bX7_fewest 44) rfl rfl trivial ?_)
        exact ih (w + 1) o1 A1 J1 hF1 (fun i hi => by rw [h15b]; exact h15 i hi) (by omega) (by omega) (fun w' hw' e => by
          by_cases q : w' = w
          · subst q
            exact g1
          · exact hw w' (by omega) e) (nI_1 w)
set_option maxHeartbeats 1000000 in
set_option maxRecDepth 20000 in
theorem fewCX (f : Nat → zC) {o0 : Nat → Int32} {A0 : Nat → Nat → Int32} {bf u n N : Nat} (hbf : bf ≤ 20) (hu : u ≤ 120) (hT0 : tbI 0 u A0) (hz0 : kp0 A0) (hn : n < u) (hr0 : rtW A0 40 (nI n)) (hN : N ≤ 8) (hkb : kbW A0 40 (nI n) = N) {n0 : Nat} : ∀ (v c : Nat), c + v = N + 1 → ∀ (o : Nat → Int32) (A : Nat → Nat → Int32) (J : Nat → Nat → Int64), fS o0 A0 bf o A → (∀ i, i < bf → A 15 i = A0 8 i) → (∀ w', w' < 2 ^ N → gdW A0 n N w' → c ≤ pcL w' 8) → ∀ {x4 : Int32}, x4 = nI c → zV (zMo 44 zX7_fewest) false n0 0 0 83 [(4, .int x4), (3, .int (nI bf)), (2, .int (nI N)), (0, .ref 76), (1, .int (nI n))] [] (wR f o A J) (fun r w' => ∃ (o' : Nat → Int32) (A' : Nat → Nat → Int32) (J' : Nat → Nat → Int64) (R : Int32), r = some (.int R) ∧ w' = wR f o' A' J' ∧ fwX o0 A0 o' A' ∧ fwO A0 n N bf o' A' R) := by
  intro v
  induction v with
  | zero =>
    intro c hc o A J hF h15 hge x4 e4
    subst e4
    iterate 3 (refine zv_step (bX7_fewest 44) rfl rfl trivial ?_)
    refine zv_ift (show nI N < nI c from nI_lt (by omega) (by omega)) ?_
    iterate 2 (refine zv_step (bX7_fewest 44) rfl rfl trivial ?_)
    refine zv_world (show _ = wR f o (updA A 8 (cpR (A 8) (A 15) 0)) J from by rw [cpR_0, updA_same A 8]) ?_
    refine zv_locals (l := [(4, .int (Int32.ofInt 0)), (3, .int (nI bf)), (2, .int (nI N)), (0, .ref 76), (1, .int (nI n))]) (l' := [(4, .int (Int32.ofInt 0)), (3, .int (nI bf)), (2, .int (nI N)), (0, .ref 76), (1, .int (nI n))]) (fun q h => h) (fewRX f o A J (u := 0) hbf hF h15 (fun w hw g => by have a1 := hge w hw g; have a2 := pc_le N hN w hw; omega) bf 0 (by omega) rfl)
  | succ v ih =>
    intro c hc o A J hF h15 hge x4 e4
    subst e4
    iterate 3 (refine zv_step (bX7_fewest 44) rfl rfl trivial ?_)
    refine zv_iff (show ¬ nI N < nI c from nI_nlt (by omega) (by omega)) ?_
    iterate 2 (refine zv_step (bX7_fewest 44) rfl rfl trivial ?_)
    refine zv_locals (l := [(5, .int (Int32.ofInt 0)), (4, .int (nI c)), (3, .int (nI bf)), (2, .int (nI N)), (0, .ref 76), (1, .int (nI n))]) (l' := [(5, .int (Int32.ofInt 0)), (4, .int (nI c)), (3, .int (nI bf)), (2, .int (nI N)), (0, .ref 76), (1, .int (nI n))]) (fun q h => h) (fewWX f hbf hu hT0 hz0 hn hr0 hN hkb (by omega) hge (fun o A J hF h15 hge2 => ?_) (2 ^ N) 0 o A J hF h15 (by omega) (Nat.zero_le _) (fun w' h => absurd h (Nat.not_lt_zero _)) rfl)
    iterate 2 (refine zv_step (bX7_fewest 44) rfl rfl trivial ?_)
    exact ih (c + 1) (by omega) o A J hF h15 hge2 (nI_1 c)
set_option maxHeartbeats 1000000 in
set_option maxRecDepth 20000 in
theorem fewKX (f : Nat → zC) (o : Nat → Int32) (A : Nat → Nat → Int32) (J : Nat → Nat → Int64) {bf u n N : Nat} (hbf : bf ≤ 20) (hu : u ≤ 120) (hT0 : tbI 0 u A) (hz0 : kp0 A) (hn : n < u) (hr0 : rtW A 40 (nI n)) (hN : N ≤ 8) (hkb : kbW A 40 (nI n) = N) (ho10 : o 10 = nI bf) (hw : nnW bf (A 8)) {n0 : Nat} : ∀ (c i : Nat), i + c = bf → ∀ {x4 : Int32}, x4 = nI i → zV (zMo 44 zX7_fewest) false n0 0 0 54 [(4, .int x4), (3, .int (nI bf)), (2, .int (nI N)), (0, .ref 76), (1, .int (nI n))] [] (wR f o (updA A 15 (cpR (A 15) (A 8) i)) J) (fun r w' => ∃ (o' : Nat → Int32) (A' : Nat → Nat → Int32) (J' : Nat → Nat → Int64) (R : Int32), r = some (.int R) ∧ w' = wR f o' A' J' ∧ fwX o A o' A' ∧ fwO A n N bf o' A' R) := by
  intro c
  induction c with
  | zero =>
    intro i hi x4 e4
    subst e4
    iterate 3 (refine zv_step (bX7_fewest 44) rfl rfl trivial ?_)
    refine zv_ift (nI_le (by omega) (by omega)) ?_
    iterate 2 (refine zv_step (bX7_fewest 44) rfl rfl trivial ?_)
    refine zv_locals (l := [(4, .int (Int32.ofInt 0)), (3, .int (nI bf)), (2, .int (nI N)), (0, .ref 76), (1, .int (nI n))]) (l' := [(4, .int (Int32.ofInt 0)), (3, .int (nI bf)), (2, .int (nI N)), (0, .ref 76), (1, .int (nI n))]) (fun q h => h) (fewCX f (o0 := o) (A0 := A) hbf hu hT0 hz0 hn hr0 hN hkb (N + 1) 0 (by omega) o (updA A 15 (cpR (A 15) (A 8) i)) J ⟨fun _ _ _ _ => rfl, fun r a b c => updA_ne _ _ c, by rw [updA_self, show i = bf by omega]; exact fun j hj => by rw [show cpR (A 15) (A 8) bf j = A 8 j from if_pos hj]; exact hw j hj, bf, hbf, ho10, by rw [updA_ne _ _ (by decide)]; exact hw⟩ (fun j hj => by rw [updA_self]; exact if_pos (by omega)) (fun _ _ _ => Nat.zero_le _) rfl)
  | succ c ih =>
    intro i hi x4 e4
    subst e4
    iterate 3 (refine zv_step (bX7_fewest 44) rfl rfl trivial ?_)
    refine zv_iff (fun h => absurd ((nI_leI (by omega) (by omega)).mp h) (by omega)) ?_
    iterate 6 (refine zv_step (bX7_fewest 44) rfl rfl trivial ?_)
    refine zv_iale (bX7_fewest 44) rfl rfl (vp_in_nI (by omega) (by decide)) (show (updA A 15 (cpR (A 15) (A 8) i)) 8 (nI i).toNatClampNeg = A 8 i by rw [updA_ne _ _ (by decide), nI_clamp (by omega)]) ?_
    refine zv_step (bX7_fewest 44) rfl rfl (vp_in_nI (by omega) (by decide)) ?_
    iterate 2 (refine zv_step (bX7_fewest 44) rfl rfl trivial ?_)
    refine zv_world (show _ = wR f o (updA A 15 (cpR (A 15) (A 8) (i + 1))) J from by rw [← cpR_s, show upd (cpR (A 15) (A 8) i) i (A 8 i) = upd (cpR (A 15) (A 8) i) (nI i).toNatClampNeg (A 8 i) by rw [nI_clamp (by omega)]]; rfl) ?_
    exact ih (i + 1) (by omega) (nI_1 i)
/-- what fewest answers, and what it leaves, where THE EAR had bf words -/
def fwR (A : Nat → Nat → Int32) (u bf : Nat) (x : Int32) (o' : Nat → Int32) (A' : Nat → Nat → Int32) (R : Int32) (same : Prop) : Prop :=
  (R = Int32.ofInt (-1) ∧ ¬ isN u x ∧ same) ∨ ∃ n, n < u ∧ x = nI n ∧ ((R = c8 (-3) ∧ ¬ rtW A 40 (nI n) ∧ same) ∨ (rtW A 40 (nI n) ∧ ((R = c8 (-5) ∧ 8 < kbW A 40 (nI n) ∧ same) ∨ (kbW A 40 (nI n) ≤ 8 ∧ fwO A n (kbW A 40 (nI n)) bf o' A' R))))
theorem kbW_le {u : Nat} (hu : u ≤ 450) {A : Nat → Nat → Int32} (hT : tbI 0 u A) : ∀ (z n : Nat), n < u → szN A n ≤ z → kbW A z (nI n) ≤ szN A n
  | 0, n, hn, hz => by have := (rN_sz (hT n (Nat.zero_le _) hn)).1; omega
  | z + 1, n, hn, hz => by
    obtain ⟨k, h0, hk, hs, h40, hv⟩ := rN_val (hT n (Nat.zero_le _) hn)
    rw [kbW_nI (by omega) hk h0]
    have hm : (if mayN k = true then 1 else 0) ≤ 1 := by split <;> omega
    rcases hs with ⟨k1, h2, h3, es⟩ | ⟨k1, k6, c, d, h2, la, hc, h3, lb, hd, es⟩ | ⟨k1, c, h2, la, hc, h3, es⟩
    · rw [h2, h3, kbW_m2]
      omega
    · rw [h2, h3]
      have := kbW_le hu hT z c (by omega) (by omega)
      have := kbW_le hu hT z d (by omega) (by omega)
      omega
    · rw [h2, h3, kbW_m2]
      have := kbW_le hu hT z c (by omega) (by omega)
      omega
set_option maxHeartbeats 1000000 in
set_option maxRecDepth 20000 in
theorem mFewestX (f : Nat → zC) (o : Nat → Int32) (A : Nat → Nat → Int32) (J : Nat → Nat → Int64) {u : Nat} (hu : u ≤ 120) (ho : o 0 = nI u) (hT0 : tbI 0 u A) (hz0 : kp0 A) {bf : Nat} (hbf : bf ≤ 20) (hw : nnW bf (A 8)) (ho10 : o 10 = nI bf) (x : Int32) : zK 44 zX7_fewest [.ref 76, .int x] (wR f o A J) (fun r w' => ∃ (o' : Nat → Int32) (A' : Nat → Nat → Int32) (J' : Nat → Nat → Int64) (R : Int32), r = some (.int R) ∧ w' = wR f o' A' J' ∧ fwX o A o' A' ∧ fwR A u bf x o' A' R (o' = o ∧ A' = A)) := by
  refine zK_of qX7_fewest (by decide +kernel) rfl ?_
  iterate 2 (refine zv_step (bX7_fewest 44) rfl rfl trivial ?_)
  refine zv_V1 (bX7_fewest 44) rfl rfl rfl rfl rfl rfl rfl ⟨rfl, rfl, rfl⟩ ⟨by decide, by decide⟩ ⟨Nat.zero_le _, Nat.zero_le _⟩ (mIsNode f o A J hu ho _) ?_
  rintro _ _ ⟨rfl, ⟨g1, rfl⟩ | ⟨g1, rfl⟩⟩
  · obtain ⟨n, hn, rfl⟩ := nd_of (by omega) g1
    iterate 1 (refine zv_step (bX7_fewest 44) rfl rfl trivial ?_)
    refine zv_ift (by decide) ?_
    iterate 2 (refine zv_step (bX7_fewest 44) rfl rfl trivial ?_)
    refine zv_V1 (bX7_fewest 44) rfl rfl rfl rfl rfl rfl rfl ⟨rfl, rfl, rfl⟩ ⟨by decide, by decide⟩ ⟨Nat.zero_le _, Nat.zero_le _⟩ (mKeepableX f o A J (by omega) hT0 40 _ (pt_of hT0 (Nat.zero_le _) hn)) ?_
    rintro _ _ ⟨rfl, rfl⟩
    have hkl := kbW_le (by omega) hT0 40 n hn (rN_sz (hT0 n (Nat.zero_le _) hn)).2.1
    have hsz := (rN_sz (hT0 n (Nat.zero_le _) hn)).2.1
    iterate 3 (refine zv_step (bX7_fewest 44) rfl rfl trivial ?_)
    refine zv_V1 (bX7_fewest 44) rfl rfl rfl rfl rfl rfl rfl ⟨rfl, rfl, rfl⟩ ⟨by decide, by decide⟩ ⟨Nat.zero_le _, Nat.zero_le _⟩ (mRightX f o A J (by omega) hT0 40 _ (pt_of hT0 (Nat.zero_le _) hn)) ?_
    rintro _ _ ⟨rfl, ⟨g2, rfl⟩ | ⟨g2, rfl⟩⟩
    · skip
      iterate 1 (refine zv_step (bX7_fewest 44) rfl rfl trivial ?_)
      refine zv_iff (by decide) ?_
      iterate 3 (refine zv_step (bX7_fewest 44) rfl rfl trivial ?_)
      refine zv_ifb (fun h27 => ?_) (fun h27 => ?_)
      · have q27 : kbW A 40 (nI n) ≤ 8 := by
          have h9 : nI (kbW A 40 (nI n)) ≤ nI 8 := h27
          rwa [nI_leI (by omega) (by decide)] at h9
        iterate 5 (refine zv_step (bX7_fewest 44) rfl rfl trivial ?_)
        refine zv_world (show _ = wR f o (updA A 15 (cpR (A 15) (A 8) 0)) J from by rw [cpR_0, updA_same A 15]) ?_
        refine zv_locals (l := [(4, .int (Int32.ofInt 0)), (3, .int (o 10)), (2, .int (nI (kbW A 40 (nI n)))), (0, .ref 76), (1, .int (nI n))]) (l' := [(4, .int (Int32.ofInt 0)), (3, .int (o 10)), (2, .int (nI (kbW A 40 (nI n)))), (0, .ref 76), (1, .int (nI n))]) (fun q h => h) ?_
        rw [ho10]
        refine zv_weak ?_ (fewKX f o A J hbf hu hT0 hz0 hn g2 q27 rfl ho10 hw bf 0 (by omega) rfl)
        rintro r w ⟨o', A', J', R, e1, e2, e3, e4⟩
        exact ⟨o', A', J', R, e1, e2, e3, Or.inr ⟨n, hn, rfl, Or.inr ⟨g2, Or.inr ⟨q27, e4⟩⟩⟩⟩
      · have q27 : 8 < kbW A 40 (nI n) := by
          have h9 : ¬ nI (kbW A 40 (nI n)) ≤ nI 8 := h27
          rw [nI_leI (by omega) (by decide)] at h9
          omega
        iterate 2 (refine zv_step (bX7_fewest 44) rfl rfl trivial ?_)
        refine zv_V1 (bX7_fewest 44) rfl rfl rfl rfl rfl rfl rfl ⟨rfl, rfl, rfl⟩ ⟨by decide, by decide⟩ ⟨Nat.zero_le _, Nat.zero_le _⟩ (mRightX f o A J (by omega) hT0 40 _ (pt_of hT0 (Nat.zero_le _) hn)) ?_
        rintro _ _ ⟨rfl, ⟨g3, rfl⟩ | ⟨g3, rfl⟩⟩
        · skip
          iterate 1 (refine zv_step (bX7_fewest 44) rfl rfl trivial ?_)
          refine zv_iff (by decide) ?_
          iterate 2 (refine zv_step (bX7_fewest 44) rfl rfl trivial ?_)
          exact zv_iret (bX7_fewest 44) rfl (Or.inl rfl) (Nat.zero_le _) (Nat.zero_le _) ⟨o, A, J, _, rfl, rfl, ⟨⟨bf, hbf, ho10, hw⟩, fun _ _ _ _ => rfl, fun _ _ _ _ => rfl⟩, Or.inr ⟨n, hn, rfl, Or.inr ⟨g2, Or.inl ⟨rfl, q27, rfl, rfl⟩⟩⟩⟩
        · skip
          iterate 1 (refine zv_step (bX7_fewest 44) rfl rfl trivial ?_)
          refine zv_ift (by decide) ?_
          exact absurd g2 g3
    · skip
      iterate 1 (refine zv_step (bX7_fewest 44) rfl rfl trivial ?_)
      refine zv_ift (by decide) ?_
      iterate 2 (refine zv_step (bX7_fewest 44) rfl rfl trivial ?_)
      refine zv_V1 (bX7_fewest 44) rfl rfl rfl rfl rfl rfl rfl ⟨rfl, rfl, rfl⟩ ⟨by decide, by decide⟩ ⟨Nat.zero_le _, Nat.zero_le _⟩ (mRightX f o A J (by omega) hT0 40 _ (pt_of hT0 (Nat.zero_le _) hn)) ?_
      rintro _ _ ⟨rfl, ⟨g3, rfl⟩ | ⟨g3, rfl⟩⟩
      · skip
        iterate 1 (refine zv_step (bX7_fewest 44) rfl rfl trivial ?_)
        refine zv_iff (by decide) ?_
        exact absurd g3 g2
      · skip
        iterate 1 (refine zv_step (bX7_fewest 44) rfl rfl trivial ?_)
        refine zv_ift (by decide) ?_
        iterate 1 (refine zv_step (bX7_fewest 44) rfl rfl trivial ?_)
        exact zv_iret (bX7_fewest 44) rfl (Or.inl rfl) (Nat.zero_le _) (Nat.zero_le _) ⟨o, A, J, _, rfl, rfl, ⟨⟨bf, hbf, ho10, hw⟩, fun _ _ _ _ => rfl, fun _ _ _ _ => rfl⟩, Or.inr ⟨n, hn, rfl, Or.inl ⟨rfl, g3, rfl, rfl⟩⟩⟩
  · skip
    iterate 1 (refine zv_step (bX7_fewest 44) rfl rfl trivial ?_)
    refine zv_iff (by decide) ?_
    iterate 1 (refine zv_step (bX7_fewest 44) rfl rfl trivial ?_)
    exact zv_iret (bX7_fewest 44) rfl (Or.inl rfl) (Nat.zero_le _) (Nat.zero_le _) ⟨o, A, J, _, rfl, rfl, ⟨⟨bf, hbf, ho10, hw⟩, fun _ _ _ _ => rfl, fun _ _ _ _ => rfl⟩, Or.inl ⟨rfl, fun q => g1 (by omega), rfl, rfl⟩⟩
