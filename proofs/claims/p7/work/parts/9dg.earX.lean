theorem dg_WL (v : Int32) : dgW v = dgL v (dgN v) := by
  have t1 : v < c8 10 → v < c8 100 := fun h => by rw [Int32.lt_iff_toInt_lt] at h ⊢; have e1 : (c8 10).toInt = 10 := (by decide); have e2 : (c8 100).toInt = 100 := (by decide); omega
  have t2 : v < c8 100 → v < (Int16.ofInt 1000).toInt32 := fun h => by rw [Int32.lt_iff_toInt_lt] at h ⊢; have e1 : (c8 100).toInt = 100 := (by decide); have e2 : ((Int16.ofInt 1000).toInt32).toInt = 1000 := (by decide +kernel); omega
  unfold dgW dgN
  by_cases h1 : v < c8 10
  · rw [if_pos (t2 (t1 h1)), if_pos (t1 h1), if_pos h1, if_pos h1]
    rfl
  · by_cases h2 : v < c8 100
    · rw [if_pos (t2 h2), if_pos h2, if_neg h1, if_neg h1, if_pos h2]
      rfl
    · by_cases h3 : v < (Int16.ofInt 1000).toInt32
      · rw [if_pos h3, if_neg h2, if_neg h1, if_neg h2, if_pos h3]
        rfl
      · rw [if_neg h3, if_neg h1, if_neg h2, if_neg h3]
        rfl
theorem has_n {u n : Nat} (hn : n < u) (hu : u ≤ 120) : 0 ≤ (nI n).toInt ∧ (nI n).toInt < (nI u).toInt := by
  rw [nI_toInt (by omega), nI_toInt (by omega)]
  omega
/-- what is KEPT of a PART is what the PART's own KIND says -/
def kpI (A : Nat → Nat → Int32) (s : Nat) (x : Int32) : Int32 := if x < 0 then 0 else A 7 (10 * s + (A 0 x.toNatClampNeg).toNatClampNeg)
theorem kpI_n {A : Nat → Nat → Int32} {s n k : Nat} (hn : n < 450) (hk : k < 10) (h0 : A 0 n = nI k) : kpI A s (nI n) = A 7 (10 * s + k) := by
  unfold kpI
  rw [if_neg (nI_pos (by omega)), nI_clamp (by omega), h0, nI_clamp (by omega)]
theorem pk_kp {u : Nat} (hu : u ≤ 120) {P A : Nat → Nat → Int32} (hT : tbI 0 u A) (hN : NR u P A) {kk : Int32} {s : Nat} (hk : ∀ k, k < 10 → (hbW kk (nI k) = 0 ↔ A 7 (10 * s + k) = 0)) {z : Nat} {x : Int32} (hx : pt 0 u A z x) (k fi : Int32) : pkW (nI u) kk (Int32.ofInt 0) P k (cvI x) fi = 0 ↔ kpI A s x = 0 := by
  rcases hx with rfl | ⟨n, rfl, hlo, hn, hz⟩
  · rw [cvI_m2]
    unfold pkW
    rw [if_neg (fun q => absurd q.1 (by decide))]
    exact ⟨fun _ => if_pos (by decide), fun _ => rfl⟩
  · obtain ⟨kd, hkd, h0⟩ := rN_kd (hT n hlo hn)
    rw [cvI_nI (by omega), kpI_n (by omega) hkd h0]
    unfold pkW
    rw [if_pos (has_n hn hu), if_pos (show Int32.ofInt 0 = 0 by decide), show nC (nI n) = n from nI_clamp (by omega), (hN n hn).1, h0]
    exact hk kd hkd
set_option maxHeartbeats 1000000 in
theorem tl_wd {u : Nat} (hu : u ≤ 120) {P A : Nat → Nat → Int32} (hT : tbI 0 u A) (hN : NR u P A) {kk : Int32} {s : Nat} (hk : ∀ k, k < 10 → (hbW kk (nI k) = 0 ↔ A 7 (10 * s + k) = 0)) : ∀ (z : Nat) (x : Int32), pt 0 u A z x → ∀ kept : Int32, (kept = 0 ↔ kpI A s x = 0) → tlW (nI u) kk (Int32.ofInt 0) P (z + 1) (cvI x) kept = wdW A s z x
  | 0, x, h, kept, _ => by
    obtain rfl := pt_zero hT h
    rw [cvI_m2]
    rfl
  | z + 1, x, h, kept, hkp => by
    rcases h with rfl | ⟨n, rfl, hlo, hn, hz⟩
    · rw [cvI_m2, wdW_m2, tlW_s, if_neg (fun q => absurd q.1 (by decide))]
    · obtain ⟨p2, p3⟩ := rN_parts hT hlo hn hz
      obtain ⟨k, h0, hk9, hs, h40, hv⟩ := rN_val (hT n hlo hn)
      obtain ⟨n1, n2, n3, n4, n5, n6, n7, n8⟩ := hN n hn
      have ih : ∀ y kd fi, pt 0 u A z y → tlW (nI u) kk (Int32.ofInt 0) P (z + 1) (cvI y) (pkW (nI u) kk (Int32.ofInt 0) P kd (cvI y) fi) = wdW A s z y := fun y kd fi hy => tl_wd hu hT hN hk z y hy _ (pk_kp hu hT hN hk hy kd fi)
      have eco : coW P (pkW (nI u) kk (Int32.ofInt 0) P) (tlW (nI u) kk (Int32.ofInt 0) P (z + 1)) n = coL A (wdW A s z) n := by
        unfold coW coL
        rw [n1, n3, n4, ih _ _ _ p2, ih _ _ _ p2, ih _ _ _ p2, ih _ _ _ p2, ih _ _ _ p3, h0]
        have nk : ∀ j, j < 10 → (nI k = nI j ↔ k = j) := fun j hj => nI_eq (by omega) (by omega)
        by_cases e0 : k = 0
        · subst e0
          obtain ⟨v, hv9, e⟩ := hv.1 (Or.inl rfl)
          rw [if_pos rfl, if_pos rfl, n2, e, cvI_nI (by omega)]
        · rw [if_neg (fun q => e0 ((nk 0 (by decide)).mp q)), if_neg (fun q => e0 ((nk 0 (by decide)).mp q))]
          by_cases e1 : k = 1
          · subst e1
            obtain ⟨v, hv9, e⟩ := hv.2.1 rfl
            rw [if_pos rfl, if_pos rfl, n2, e, cvI_nI (by omega)]
            exact dg_WL _
          · rw [if_neg (fun q => e1 ((nk 1 (by decide)).mp q)), if_neg (fun q => e1 ((nk 1 (by decide)).mp q))]
            by_cases e9 : k = 9
            · subst e9
              obtain ⟨v, hv9, e⟩ := hv.1 (Or.inr rfl)
              rw [n2, e, cvI_nI (by omega)]
            · rw [if_neg (fun q => e9 ((nk 9 (by decide)).mp q)), if_neg (fun q => e9 ((nk 9 (by decide)).mp q))]
      rw [kpI_n (by omega) hk9 h0] at hkp
      rw [cvI_nI (by omega), tlW_s, if_pos (has_n hn hu), show nC (nI n) = n from nI_clamp (by omega), eco, wdW_nI (by omega) hk9 h0]
      unfold brL
      by_cases q : kept = 0
      · rw [if_pos q, if_pos (hkp.mp q)]
      · rw [if_neg q, if_neg (fun w => q (hkp.mpr w))]
theorem ap8_lo : ∀ (L : List Int32) (g : Nat → Int32) (q i : Nat), i < q → ap8 g q L i = g i
  | [], _, _, _, _ => rfl
  | v :: L, g, q, i, h => by
    show ap8 (ap1 g q v) (q + 1) L i = g i
    rw [ap8_lo L _ (q + 1) i (by omega)]
    unfold ap1
    split
    · exact upd_ne _ _ (by omega)
    · rfl
theorem ap8_at : ∀ (L : List Int32) (g : Nat → Int32) (q i : Nat) {v : Int32}, L[i]? = some v → q + i < 80 → ap8 g q L (q + i) = v
  | [], _, _, _, _, h, _ => by simp at h
  | w :: L, g, q, 0, v, h, hq => by
    show ap8 (ap1 g q w) (q + 1) L (q + 0) = v
    rw [ap8_lo L _ (q + 1) _ (by omega)]
    have : w = v := by simpa using h
    rw [← this]
    unfold ap1
    rw [if_pos (by omega)]
    exact upd_self _ _ _
  | w :: L, g, q, i + 1, v, h, hq => by
    show ap8 (ap1 g q w) (q + 1) L (q + (i + 1)) = v
    rw [show q + (i + 1) = q + 1 + i by omega]
    exact ap8_at L _ (q + 1) i (by simpa using h) (by omega)
/-- q words of another row come to a row's beginning -/
def cpR (g s : Nat → Int32) (q i : Nat) : Int32 := if i < q then s i else g i
theorem cpR_0 (g s : Nat → Int32) : cpR g s 0 = g := by
  funext i
  exact if_neg (Nat.not_lt_zero _)
theorem cpR_s (g s : Nat → Int32) (q : Nat) : upd (cpR g s q) q (s q) = cpR g s (q + 1) := by
  funext i
  unfold upd cpR
  by_cases e : i = q
  · subst e
    rw [if_pos rfl, if_pos (Nat.lt_succ_self _)]
  · rw [if_neg e]
    by_cases h : i < q
    · rw [if_pos h, if_pos (by omega)]
    · rw [if_neg h, if_neg (by omega)]
def dgV (y : Int32) (k : Nat) : Int32 := (y >>> ((Int32.ofInt 5 * nI k) &&& 31)) &&& c8 31
theorem dgV_31 (y : Int32) (k : Nat) : (dgV y k ≤ c8 30 ↔ ¬ dgV y k = c8 31) ∧ ∃ e : Nat, e ≤ 31 ∧ dgV y k = nI e := by
  obtain ⟨e, he, q⟩ := and31 (y >>> ((Int32.ofInt 5 * nI k) &&& 31))
  refine ⟨?_, e, he, q⟩
  rw [show dgV y k = nI e from q]
  exact (show ∀ e, e ≤ 31 → (nI e ≤ c8 30 ↔ ¬ nI e = c8 31) by decide +kernel) e he
def heA (n : Nat) (y : Int32) : Prop := ∀ k, k < n → ¬ dgV y k = c8 31
/-- the words that come, one by one -/
def heL (y : Int32) : Nat → (Nat → Int32) → Nat → Nat → Int32
  | 0, g, _ => g
  | k + 1, g, l => heL y k (upd g l (dgV y k)) (l + 1)
theorem heL_e (y : Int32) : ∀ (k : Nat) (g g' : Nat → Int32) (l : Nat), (∀ i, i < l → g i = g' i) → ∀ i, i < l + k → heL y k g l i = heL y k g' l i
  | 0, g, g', l, h, i, hi => h i hi
  | k + 1, g, g', l, h, i, hi => heL_e y k _ _ (l + 1) (fun j hj => by
      by_cases e : j = l
      · subst e
        rw [upd_self, upd_self]
      · rw [upd_ne _ _ e, upd_ne _ _ e]
        exact h j (by omega)) i (by omega)
/-- what hear answers where it had l words -/
def heR (l : Nat) (x y R : Int32) (ok : Nat → Prop) (no : Prop) : Prop :=
  (R = Int32.ofInt (-1) ∧ ¬ (∃ n, 1 ≤ n ∧ n ≤ 5 ∧ x = nI n ∧ heA n y) ∧ no) ∨ ∃ n, 1 ≤ n ∧ n ≤ 5 ∧ x = nI n ∧ heA n y ∧ ((R = c8 (-2) ∧ 20 < l + n ∧ no) ∨ (R = nI (l + n) ∧ l + n ≤ 20 ∧ ok n))
set_option maxHeartbeats 1000000 in
set_option maxRecDepth 20000 in
theorem cDigitX (w : zW) (x : Int32) {k : Nat} {y : Int32} (e : y = nI k) : zK 0 zX6_digitOf [.int x, .int y] w (fun r w' => w' = w ∧ r = some (.int (dgV x k))) := by
  subst e
  refine zK_of qX6_digitOf (by decide +kernel) rfl ?_
  iterate 7 (refine zv_step (bX6_digitOf 0) rfl rfl trivial ?_)
  exact zv_iret (bX6_digitOf 0) rfl (Or.inl rfl) (Nat.zero_le _) (Nat.zero_le _) ⟨rfl, rfl⟩
set_option maxHeartbeats 1000000 in
set_option maxRecDepth 20000 in
theorem cHe2X (O : Nat → Int32) (P : Nat → Nat → Int32) (Y : Nat → Nat → Int64) (g : Nat → zC) {n : Nat} (hn : n ≤ 5) (y : Int32) {n0 : Nat} {Q : Option Value → zW → Prop} : ∀ (i l : Nat) (gr : Nat → Int32), i ≤ n → l + i ≤ 20 → ∀ {x3 : Int32}, x3 = nI i - Int32.ofInt 1 → (Q (some (.int (nI (l + i)))) (wX (upd O 9 (nI (l + i))) (updA P 32 (heL y i gr l)) Y g)) → zV (zMo 1 zX6_hear) false n0 0 0 58 [(3, .int x3), (0, .ref 0), (1, .int (nI n)), (2, .int y)] [] (wX (upd O 9 (nI l)) (updA P 32 gr) Y g) Q := by
  intro i
  induction i with
  | zero =>
    intro l gr hi hl x3 e3 hQ
    subst e3
    iterate 2 (refine zv_step (bX6_hear 1) rfl rfl trivial ?_)
    refine zv_ift (show nI 0 - Int32.ofInt 1 < 0 by decide) ?_
    iterate 3 (refine zv_step (bX6_hear 1) rfl rfl trivial ?_)
    exact zv_iret (bX6_hear 1) rfl (Or.inl rfl) (Nat.zero_le _) (Nat.zero_le _) hQ
  | succ i ih =>
    intro l gr hi hl x3 e3 hQ
    rw [sub_1 (by omega), Nat.add_sub_cancel] at e3
    subst e3
    rw [show l + (i + 1) = l + 1 + i by omega] at hQ
    iterate 2 (refine zv_step (bX6_hear 1) rfl rfl trivial ?_)
    refine zv_iff (show ¬ nI i < 0 from nI_pos (by omega)) ?_
    iterate 4 (refine zv_step (bX6_hear 1) rfl rfl trivial ?_)
    refine zv_S2 (bX6_hear 1) rfl rfl rfl rfl ⟨rfl, rfl, rfl⟩ ⟨by decide, by decide⟩ ⟨Nat.zero_le _, Nat.zero_le _⟩ (cDigitX _ _ (k := i) rfl) ?_
    rintro _ _ ⟨rfl, rfl⟩
    refine zv_V1 (bX6_hear 1) rfl rfl rfl rfl rfl rfl rfl ⟨rfl, rfl, rfl⟩ ⟨by decide, by decide⟩ ⟨Nat.zero_le _, Nat.zero_le _⟩ (hAdd (upd O 9 (nI l)) (updA P 32 gr) Y g (n := l) (by omega) rfl _) ?_
    rintro _ _ ⟨rfl, ⟨hq9, rfl⟩ | ⟨hq9, rfl⟩⟩
    · rw [upd2]
      iterate 2 (refine zv_step (bX6_hear 1) rfl rfl trivial ?_)
      refine zv_world (show _ = wX (upd O 9 (nI (l + 1))) (updA P 32 (upd gr l (dgV y i))) Y g from rfl) ?_
      exact ih (l + 1) (upd gr l (dgV y i)) (by omega) (by omega) (show nI i + Int32.ofInt (-1) = nI i - Int32.ofInt 1 by rw [Int32.sub_eq_add_neg]; rfl) hQ
    · exact absurd (show l < 20 by omega) hq9
      skip
set_option maxHeartbeats 1000000 in
set_option maxRecDepth 20000 in
theorem cHe1X (O : Nat → Int32) (P : Nat → Nat → Int32) (Y : Nat → Nat → Int64) (g : Nat → zC) {n l : Nat} (hn : n ≤ 5) (hn1 : 1 ≤ n) (hl : l ≤ 20) (y : Int32) {n0 : Nat} : ∀ (c i : Nat), i + c = n → (∀ k, k < i → ¬ dgV y k = c8 31) → ∀ {x3 : Int32}, x3 = nI i → zV (zMo 1 zX6_hear) false n0 0 0 14 [(3, .int x3), (0, .ref 0), (1, .int (nI n)), (2, .int y)] [] (wX (upd O 9 (nI (l))) P Y g) (fun r w' => ∃ R : Int32, r = some (.int R) ∧ heR l (nI n) y R (fun n => w' = wX (upd O 9 (nI (l + n))) (updA P 32 (heL y n (P 32) l)) Y g) (w' = (wX (upd O 9 (nI (l))) P Y g))) := by
  intro c
  induction c with
  | zero =>
    intro i hc hd x3 e3
    subst e3
    iterate 3 (refine zv_step (bX6_hear 1) rfl rfl trivial ?_)
    refine zv_ift (nI_le (by omega) (by omega)) ?_
    iterate 7 (refine zv_step (bX6_hear 1) rfl rfl trivial ?_)
    refine zv_ifb (fun h48 => ?_) (fun h48 => ?_)
    · have hA : heA n y := fun k hk => hd k (by omega)
      have hfit : l + n ≤ 20 := by
        have h9 : nI l + nI n ≤ nI 20 := h48
        rwa [nI_add, nI_leI (by omega) (by decide)] at h9
      iterate 4 (refine zv_step (bX6_hear 1) rfl rfl trivial ?_)
      refine zv_world (show _ = wX (upd O 9 (nI l)) (updA P 32 (P 32)) Y g by rw [updA_same P 32]) ?_
      exact cHe2X O P Y g hn y n l (P 32) (Nat.le_refl _) hfit rfl ⟨_, rfl, Or.inr ⟨n, hn1, hn, rfl, hA, Or.inr ⟨rfl, hfit, rfl⟩⟩⟩
    · have hA : heA n y := fun k hk => hd k (by omega)
      have hfit : ¬ l + n ≤ 20 := fun q => h48 (show nI l + nI n ≤ nI 20 by rw [nI_add, nI_leI (by omega) (by decide)]; exact q)
      iterate 1 (refine zv_step (bX6_hear 1) rfl rfl trivial ?_)
      exact zv_iret (bX6_hear 1) rfl (Or.inl rfl) (Nat.zero_le _) (Nat.zero_le _) ⟨_, rfl, Or.inr ⟨n, hn1, hn, rfl, hA, Or.inl ⟨rfl, by omega, rfl⟩⟩⟩
  | succ c ih =>
    intro i hc hd x3 e3
    subst e3
    iterate 3 (refine zv_step (bX6_hear 1) rfl rfl trivial ?_)
    refine zv_iff (nI_ge (by omega) (by omega)) ?_
    iterate 2 (refine zv_step (bX6_hear 1) rfl rfl trivial ?_)
    refine zv_S2 (bX6_hear 1) rfl rfl rfl rfl ⟨rfl, rfl, rfl⟩ ⟨by decide, by decide⟩ ⟨Nat.zero_le _, Nat.zero_le _⟩ (cDigitX _ _ (k := i) rfl) ?_
    rintro _ _ ⟨rfl, rfl⟩
    iterate 2 (refine zv_step (bX6_hear 1) rfl rfl trivial ?_)
    refine zv_ifb (fun h26 => ?_) (fun h26 => ?_)
    · have q26 : ¬ dgV y i = c8 31 := (dgV_31 y i).1.mp h26
      iterate 2 (refine zv_step (bX6_hear 1) rfl rfl trivial ?_)
      exact ih (i + 1) (by omega) (fun k hk => by
        by_cases e : k = i
        · rw [e]; exact q26
        · exact hd k (by omega)) (nI_1 i)
    · have q26 : dgV y i = c8 31 := Decidable.not_not.mp (fun q => h26 ((dgV_31 y i).1.mpr q))
      iterate 1 (refine zv_step (bX6_hear 1) rfl rfl trivial ?_)
      exact zv_iret (bX6_hear 1) rfl (Or.inl rfl) (Nat.zero_le _) (Nat.zero_le _) ⟨_, rfl, Or.inl ⟨rfl, fun ⟨m, m1, m5, em, hm⟩ => by
        have : n = m := (nI_eq (by omega) (by omega)).mp em
        subst this
        exact hm i (by omega) q26, rfl⟩⟩
set_option maxHeartbeats 1000000 in
set_option maxRecDepth 20000 in
theorem cHearX (O : Nat → Int32) (P : Nat → Nat → Int32) (Y : Nat → Nat → Int64) (g : Nat → zC) {l : Nat} (hl : l ≤ 20) (x y : Int32) : zK 1 zX6_hear [.ref 0, .int x, .int y] (wX (upd O 9 (nI (l))) P Y g) (fun r w' => ∃ R : Int32, r = some (.int R) ∧ heR l x y R (fun n => w' = wX (upd O 9 (nI (l + n))) (updA P 32 (heL y n (P 32) l)) Y g) (w' = (wX (upd O 9 (nI (l))) P Y g))) := by
  refine zK_of qX6_hear (by decide +kernel) rfl ?_
  iterate 3 (refine zv_step (bX6_hear 1) rfl rfl trivial ?_)
  refine zv_ifb (fun h2 => ?_) (fun h2 => ?_)
  · have q2 : x.toInt < 1 := by
      have h9 := h2
      rw [Int32.lt_iff_toInt_lt] at h9
      exact h9
    iterate 1 (refine zv_step (bX6_hear 1) rfl rfl trivial ?_)
    exact zv_iret (bX6_hear 1) rfl (Or.inl rfl) (Nat.zero_le _) (Nat.zero_le _) ⟨_, rfl, Or.inl ⟨rfl, fun ⟨m, m1, m5, em, hm⟩ => by
      rw [em, nI_toInt (by omega)] at q2
      omega, rfl⟩⟩
  · have q2 : ¬ x.toInt < 1 := fun q => h2 (by rw [Int32.lt_iff_toInt_lt]; exact q)
    iterate 3 (refine zv_step (bX6_hear 1) rfl rfl trivial ?_)
    refine zv_ifb (fun h7 => ?_) (fun h7 => ?_)
    · have q7 : x.toInt ≤ 5 := by
        have h9 := h7
        rw [Int32.le_iff_toInt_le] at h9
        exact h9
      obtain ⟨n, hn, rfl⟩ := in_nat (x := x) (b := 5) (by decide) ⟨by omega, q7⟩
      rw [nI_toInt (by omega)] at q2
      iterate 2 (refine zv_step (bX6_hear 1) rfl rfl trivial ?_)
      exact cHe1X O P Y g hn (by omega) hl y n 0 (by omega) (fun k hk => absurd hk (by omega)) rfl
    · have q7 : ¬ x.toInt ≤ 5 := fun q => h7 (by rw [Int32.le_iff_toInt_le]; exact q)
      iterate 1 (refine zv_step (bX6_hear 1) rfl rfl trivial ?_)
      exact zv_iret (bX6_hear 1) rfl (Or.inl rfl) (Nat.zero_le _) (Nat.zero_le _) ⟨_, rfl, Or.inl ⟨rfl, fun ⟨m, m1, m5, em, hm⟩ => by
        rw [em, nI_toInt (by omega)] at q7
        omega, rfl⟩⟩
set_option maxHeartbeats 1000000 in
set_option maxRecDepth 20000 in
theorem hearL2X (f : Nat → zC) (o : Nat → Int32) (A : Nat → Nat → Int32) (J : Nat → Nat → Int64) {n : Nat} (hn : n ≤ 5) (y : Int32) {n0 : Nat} {Q : Option Value → zW → Prop} : ∀ (k l : Nat) (gr : Nat → Int32), l + k ≤ 20 → ∀ {x3 : Int32}, x3 = nI k - Int32.ofInt 1 → (Q (some (.int (nI (l + k)))) (wR f (upd o 10 (nI (l + k))) (updA A 8 (heL y k gr l)) J)) → zV (zMo 1 zX7_hear) false n0 0 0 60 [(3, .int x3), (0, .ref 76), (1, .int (nI n)), (2, .int y)] [] (wR f (upd o 10 (nI (l))) (updA A 8 (gr)) J) Q := by
  intro k
  induction k with
  | zero =>
    intro l gr hl x3 e3 hQ
    subst e3
    iterate 2 (refine zv_step (bX7_hear 1) rfl rfl trivial ?_)
    refine zv_ift (show nI 0 - Int32.ofInt 1 < 0 by decide) ?_
    iterate 2 (refine zv_step (bX7_hear 1) rfl rfl trivial ?_)
    exact zv_iret (bX7_hear 1) rfl (Or.inl rfl) (Nat.zero_le _) (Nat.zero_le _) hQ
  | succ k ih =>
    intro l gr hl x3 e3 hQ
    subst e3
    rw [show l + (k + 1) = l + 1 + k by omega] at hQ
    iterate 2 (refine zv_step (bX7_hear 1) rfl rfl trivial ?_)
    refine zv_iff (show ¬ nI (k + 1) - Int32.ofInt 1 < 0 by rw [show nI (k + 1) - Int32.ofInt 1 = nI k from nI_m1 k]; exact nI_pos (by omega)) ?_
    iterate 11 (refine zv_step (bX7_hear 1) rfl rfl trivial ?_)
    refine zv_step (bX7_hear 1) rfl rfl (show vp_in (nI l) 20 from vp_in_nI (by omega) (by decide)) ?_
    iterate 8 (refine zv_step (bX7_hear 1) rfl rfl trivial ?_)
    refine zv_world (show _ = wR f (upd o 10 (nI (l + 1))) (updA A 8 (upd gr l (dgV y k))) J from by rw [show nI (l + 1) = nI l + Int32.ofInt 1 from (nI_1 l).symm, show upd gr l = upd gr (nI l).toNatClampNeg by rw [nI_clamp (by omega)], show dgV y k = (y >>> (Int32.ofInt 5 * (nI (k + 1) - Int32.ofInt 1) &&& 31) &&& c8 31) by rw [show nI (k + 1) - Int32.ofInt 1 = nI k from nI_m1 k]; rfl]; rfl) ?_
    exact ih (l + 1) _ (by omega) (by rw [show nI (k + 1) - Int32.ofInt 1 = nI k from nI_m1 k, ← nI_dec2]) hQ
set_option maxHeartbeats 1000000 in
set_option maxRecDepth 20000 in
theorem hearL1X (f : Nat → zC) (o : Nat → Int32) (A : Nat → Nat → Int32) (J : Nat → Nat → Int64) {l : Nat} (hh : l ≤ 20) {n : Nat} (hn : n ≤ 5) (hn1 : 1 ≤ n) (y : Int32) {n0 : Nat} : ∀ (c k : Nat), k + c = n → (∀ j, j < k → ¬ dgV y j = c8 31) → ∀ {x3 : Int32}, x3 = nI k → zV (zMo 1 zX7_hear) false n0 0 0 16 [(3, .int x3), (0, .ref 76), (1, .int (nI n)), (2, .int y)] [] (wR f (upd o 10 (nI l)) A J) (fun r w' => ∃ R : Int32, r = some (.int R) ∧ heR l (nI n) y R (fun n => w' = wR f (upd o 10 (nI (l + n))) (updA A 8 (heL y n (A 8) l)) J) (w' = wR f (upd o 10 (nI l)) A J)) := by
  intro c
  induction c with
  | zero =>
    intro k hc hd x3 e3
    subst e3
    iterate 3 (refine zv_step (bX7_hear 1) rfl rfl trivial ?_)
    refine zv_ift (nI_le (by omega) (by omega)) ?_
    iterate 6 (refine zv_step (bX7_hear 1) rfl rfl trivial ?_)
    refine zv_ifb (fun h50 => ?_) (fun h50 => ?_)
    · have hA : heA n y := fun k hk => hd k (by omega)
      have hfit : l + n ≤ 20 := by
        have h9 : nI l + nI n ≤ nI 20 := h50
        rwa [nI_add, nI_leI (by omega) (by decide)] at h9
      iterate 4 (refine zv_step (bX7_hear 1) rfl rfl trivial ?_)
      refine zv_world (show _ = wR f (upd o 10 (nI l)) (updA A 8 (A 8)) J by rw [updA_same A 8]) ?_
      refine zv_locals (l := [(3, .int (nI n - Int32.ofInt 1)), (0, .ref 76), (1, .int (nI n)), (2, .int y)]) (l' := [(3, .int (nI n - Int32.ofInt 1)), (0, .ref 76), (1, .int (nI n)), (2, .int y)]) (fun q h => h) (hearL2X f o A J hn y n l (A 8) hfit rfl ⟨_, rfl, Or.inr ⟨n, hn1, hn, rfl, hA, Or.inr ⟨rfl, hfit, rfl⟩⟩⟩)
    · have hA : heA n y := fun k hk => hd k (by omega)
      have hfit : ¬ l + n ≤ 20 := fun q => h50 (show nI l + nI n ≤ nI 20 by rw [nI_add, nI_leI (by omega) (by decide)]; exact q)
      iterate 1 (refine zv_step (bX7_hear 1) rfl rfl trivial ?_)
      exact zv_iret (bX7_hear 1) rfl (Or.inl rfl) (Nat.zero_le _) (Nat.zero_le _) ⟨_, rfl, Or.inr ⟨n, hn1, hn, rfl, hA, Or.inl ⟨rfl, by omega, rfl⟩⟩⟩
  | succ c ih =>
    intro k hc hd x3 e3
    subst e3
    iterate 3 (refine zv_step (bX7_hear 1) rfl rfl trivial ?_)
    refine zv_iff (fun h => absurd ((nI_leI (by omega) (by omega)).mp h) (by omega)) ?_
    iterate 9 (refine zv_step (bX7_hear 1) rfl rfl trivial ?_)
    refine zv_ifb (fun h31 => ?_) (fun h31 => ?_)
    · iterate 2 (refine zv_step (bX7_hear 1) rfl rfl trivial ?_)
      exact ih (k + 1) (by omega) (fun j hj => by
        by_cases e : j = k
        · rw [e]; exact h31
        · exact hd j (by omega)) (nI_1 k)
    · have q31 : dgV y k = c8 31 := Decidable.not_not.mp h31
      iterate 1 (refine zv_step (bX7_hear 1) rfl rfl trivial ?_)
      exact zv_iret (bX7_hear 1) rfl (Or.inl rfl) (Nat.zero_le _) (Nat.zero_le _) ⟨_, rfl, Or.inl ⟨rfl, fun ⟨m, m1, m5, em, hm⟩ => by
        have : n = m := (nI_eq (by omega) (by omega)).mp em
        subst this
        exact hm k (by omega) q31, rfl⟩⟩
set_option maxHeartbeats 1000000 in
set_option maxRecDepth 20000 in
theorem mHearX (f : Nat → zC) (o : Nat → Int32) (A : Nat → Nat → Int32) (J : Nat → Nat → Int64) {l : Nat} (hh : l ≤ 20) (x y : Int32) : zK 1 zX7_hear [.ref 76, .int x, .int y] (wR f (upd o 10 (nI l)) A J) (fun r w' => ∃ R : Int32, r = some (.int R) ∧ heR l x y R (fun n => w' = wR f (upd o 10 (nI (l + n))) (updA A 8 (heL y n (A 8) l)) J) (w' = wR f (upd o 10 (nI l)) A J)) := by
  refine zK_of qX7_hear (by decide +kernel) rfl ?_
  iterate 4 (refine zv_step (bX7_hear 1) rfl rfl trivial ?_)
  refine zv_S3 (bX7_hear 1) rfl rfl rfl rfl ⟨rfl, rfl, rfl⟩ ⟨by decide, by decide⟩ ⟨Nat.zero_le _, Nat.zero_le _⟩ (mIn _ _ _ _ (a := 1) (b := 5) (by decide) (by decide)) ?_
  rintro _ _ ⟨rfl, ⟨g1, rfl⟩ | ⟨g1, rfl⟩⟩
  · try rw [Int32.toInt_toInt64] at g1
    obtain ⟨n, hn, rfl⟩ := in_nat (x := x) (b := 5) (by decide) ⟨by omega, by omega⟩
    rw [nI_toInt (by omega)] at g1
    iterate 1 (refine zv_step (bX7_hear 1) rfl rfl trivial ?_)
    refine zv_ift (by decide) ?_
    iterate 2 (refine zv_step (bX7_hear 1) rfl rfl trivial ?_)
    exact hearL1X f o A J hh hn (by omega) y n 0 (by omega) (fun k hk => absurd hk (by omega)) rfl
  · try rw [Int32.toInt_toInt64] at g1
    iterate 1 (refine zv_step (bX7_hear 1) rfl rfl trivial ?_)
    refine zv_iff (by decide) ?_
    iterate 1 (refine zv_step (bX7_hear 1) rfl rfl trivial ?_)
    exact zv_iret (bX7_hear 1) rfl (Or.inl rfl) (Nat.zero_le _) (Nat.zero_le _) ⟨_, rfl, Or.inl ⟨rfl, fun ⟨m, m1, m5, em, hm⟩ => by
      rw [em, nI_toInt (by omega)] at g1
      omega, rfl⟩⟩
set_option maxHeartbeats 1000000 in
set_option maxRecDepth 20000 in
theorem mHushX (f : Nat → zC) (o : Nat → Int32) (A : Nat → Nat → Int32) (J : Nat → Nat → Int64) : zK 0 zX7_hush [.ref 76] (wR f o A J) (fun r w' => r = some (.int (o 10)) ∧ w' = wR f (upd o 10 (Int32.ofInt 0)) A J) := by
  refine zK_of qX7_hush (by decide +kernel) rfl ?_
  iterate 7 (refine zv_step (bX7_hush 0) rfl rfl trivial ?_)
  exact zv_iret (bX7_hush 0) rfl (Or.inl rfl) (Nat.zero_le _) (Nat.zero_le _) ⟨rfl, rfl⟩
set_option maxHeartbeats 1000000 in
set_option maxRecDepth 20000 in
theorem cHsLX (O : Nat → Int32) (P : Nat → Nat → Int32) (Y : Nat → Nat → Int64) (g : Nat → zC) {q : Nat} (hq : q ≤ 20) (hO : O 3 = nI q) {n0 : Nat} : ∀ (c i : Nat), i + c = q → ∀ {x1 : Int32}, x1 = nI i → zV (zMo 1 zX6_hearSpeech) false n0 0 0 25 [(1, .int x1), (0, .ref 0)] [] (wX (upd O 9 (nI i)) (updA P 32 (cpR (P 32) (P 28) i)) Y g) (fun r w' => r = some (.int (nI q)) ∧ w' = wX (upd O 9 (nI q)) (updA P 32 (cpR (P 32) (P 28) q)) Y g) := by
  intro c
  induction c with
  | zero =>
    intro i hc x1 e1
    subst e1
    iterate 5 (refine zv_step (bX6_hearSpeech 1) rfl rfl trivial ?_)
    refine zv_ift (show O 3 ≤ nI i by rw [hO]; exact nI_le (by omega) (by omega)) ?_
    iterate 3 (refine zv_step (bX6_hearSpeech 1) rfl rfl trivial ?_)
    have e9 : i = q := by omega
    subst e9
    exact zv_iret (bX6_hearSpeech 1) rfl (Or.inl rfl) (Nat.zero_le _) (Nat.zero_le _) ⟨rfl, rfl⟩
  | succ c ih =>
    intro i hc x1 e1
    subst e1
    iterate 5 (refine zv_step (bX6_hearSpeech 1) rfl rfl trivial ?_)
    refine zv_iff (show ¬ O 3 ≤ nI i by rw [hO]; exact nI_ge (by omega) (by omega)) ?_
    iterate 6 (refine zv_step (bX6_hearSpeech 1) rfl rfl trivial ?_)
    refine zv_iale (bX6_hearSpeech 1) rfl rfl (show vp_in (nI i) 80 from vp_in_nI (by omega) (by decide)) (show (updA P 32 (cpR (P 32) (P 28) i)) 28 (nI i).toNatClampNeg = P 28 i by rw [updA_ne _ _ (by decide), nI_clamp (by omega)]) ?_
    refine zv_V1 (bX6_hearSpeech 1) rfl rfl rfl rfl rfl rfl rfl ⟨rfl, rfl, rfl⟩ ⟨by decide, by decide⟩ ⟨Nat.zero_le _, Nat.zero_le _⟩ (hAdd (upd O 9 (nI i)) (updA P 32 (cpR (P 32) (P 28) i)) Y g (n := i) (by omega) rfl _) ?_
    rintro _ _ ⟨rfl, ⟨hq9, rfl⟩ | ⟨hq9, rfl⟩⟩
    · rw [upd2]
      iterate 2 (refine zv_step (bX6_hearSpeech 1) rfl rfl trivial ?_)
      refine zv_world (show _ = wX (upd O 9 (nI (i + 1))) (updA P 32 (cpR (P 32) (P 28) (i + 1))) Y g from by rw [← cpR_s]; rfl) ?_
      exact ih (i + 1) (by omega) (nI_1 i)
    · exact absurd (show i < 20 by omega) hq9
set_option maxHeartbeats 1000000 in
set_option maxRecDepth 20000 in
theorem cHearSpeechX (O : Nat → Int32) (P : Nat → Nat → Int32) (Y : Nat → Nat → Int64) (g : Nat → zC) {q l : Nat} (hq : q < 2 ^ 30) (hO : O 3 = nI q) : zK 1 zX6_hearSpeech [.ref 0] (wX (upd O 9 (nI l)) P Y g) (fun r w' => (20 < q ∧ r = some (.int (c8 (-2))) ∧ w' = wX (upd O 9 (nI l)) P Y g) ∨ (q ≤ 20 ∧ r = some (.int (nI q)) ∧ w' = wX (upd O 9 (nI q)) (updA P 32 (cpR (P 32) (P 28) q)) Y g)) := by
  refine zK_of qX6_hearSpeech (by decide +kernel) rfl ?_
  iterate 5 (refine zv_step (bX6_hearSpeech 1) rfl rfl trivial ?_)
  refine zv_ifb (fun h9 => ?_) (fun h9 => ?_)
  · have q9 : q ≤ 20 := by
      have h9x : O 3 ≤ nI 20 := h9
      rwa [hO, nI_leI (by omega) (by decide)] at h9x
    iterate 6 (refine zv_step (bX6_hearSpeech 1) rfl rfl trivial ?_)
    refine zv_world (show wX (upd (upd O 9 (nI l)) 9 (nI 0)) P Y g = wX (upd O 9 (nI 0)) (updA P 32 (cpR (P 32) (P 28) 0)) Y g by rw [upd2, cpR_0, updA_same P 32]) ?_
    refine zv_weak (fun r w h => Or.inr ⟨q9, h⟩) (cHsLX O P Y g q9 hO q 0 (by omega) rfl)
  · have q9 : ¬ q ≤ 20 := fun w => h9 (show O 3 ≤ nI 20 by rw [hO, nI_leI (by omega) (by decide)]; exact w)
    iterate 1 (refine zv_step (bX6_hearSpeech 1) rfl rfl trivial ?_)
    exact zv_iret (bX6_hearSpeech 1) rfl (Or.inl rfl) (Nat.zero_le _) (Nat.zero_le _) (Or.inl ⟨by omega, rfl, rfl⟩)
set_option maxHeartbeats 1000000 in
set_option maxRecDepth 20000 in
theorem hearsLX (f : Nat → zC) (o : Nat → Int32) (A : Nat → Nat → Int32) (J : Nat → Nat → Int64) {q : Nat} (hq : q ≤ 20) (ho : o 18 = nI q) {n0 : Nat} : ∀ (c k : Nat), k + c = q → ∀ {x1 : Int32}, x1 = nI k → zV (zMo 0 zX7_hears) false n0 0 0 2 [(1, .int x1), (0, .ref 76)] [] (wR f o (updA A 8 (cpR (A 8) (A 14) k)) J) (fun r w' => r = none ∧ w' = wR f (upd o 10 (nI q)) (updA A 8 (cpR (A 8) (A 14) q)) J) := by
  intro c
  induction c with
  | zero =>
    intro k hc x1 e1
    subst e1
    iterate 4 (refine zv_step (bX7_hears 0) rfl rfl trivial ?_)
    refine zv_ift (show o 18 ≤ nI k by rw [ho]; exact nI_le (by omega) (by omega)) ?_
    iterate 4 (refine zv_step (bX7_hears 0) rfl rfl trivial ?_)
    exact zv_ret (bX7_hears 0) rfl rfl (Nat.zero_le _) (Nat.zero_le _) ⟨rfl, by rw [show q = k by omega, ← show o 18 = nI k by rw [ho, show q = k by omega]]; rfl⟩
  | succ c ih =>
    intro k hc x1 e1
    subst e1
    iterate 4 (refine zv_step (bX7_hears 0) rfl rfl trivial ?_)
    refine zv_iff (show ¬ o 18 ≤ nI k by rw [ho]; exact fun h => absurd ((nI_leI (by omega) (by omega)).mp h) (by omega)) ?_
    iterate 6 (refine zv_step (bX7_hears 0) rfl rfl trivial ?_)
    refine zv_iale (bX7_hears 0) rfl rfl (show vp_in (nI k) 256 from vp_in_nI (by omega) (by decide)) (show (updA A 8 (cpR (A 8) (A 14) k)) 14 (nI k).toNatClampNeg = A 14 k by rw [updA_ne _ _ (by decide), nI_clamp (by omega)]) ?_
    refine zv_step (bX7_hears 0) rfl rfl (vp_in_nI (by omega) (by decide)) ?_
    iterate 2 (refine zv_step (bX7_hears 0) rfl rfl trivial ?_)
    refine zv_world (show _ = wR f o (updA A 8 (cpR (A 8) (A 14) (k + 1))) J from by rw [← cpR_s, show upd (cpR (A 8) (A 14) k) k (A 14 k) = upd (cpR (A 8) (A 14) k) (nI k).toNatClampNeg (A 14 k) by rw [nI_clamp (by omega)]]; rfl) ?_
    exact ih (k + 1) (by omega) (nI_1 k)
set_option maxHeartbeats 1000000 in
set_option maxRecDepth 20000 in
theorem mHearsX (f : Nat → zC) (o : Nat → Int32) (A : Nat → Nat → Int32) (J : Nat → Nat → Int64) {q : Nat} (hq : q ≤ 20) (ho : o 18 = nI q) : zK 0 zX7_hears [.ref 76] (wR f o A J) (fun r w' => r = none ∧ w' = wR f (upd o 10 (nI q)) (updA A 8 (cpR (A 8) (A 14) q)) J) := by
  refine zK_of qX7_hears (by decide +kernel) rfl ?_
  iterate 2 (refine zv_step (bX7_hears 0) rfl rfl trivial ?_)
  refine zv_world (show _ = wR f o (updA A 8 (cpR (A 8) (A 14) 0)) J from by rw [cpR_0, updA_same A 8]) ?_
  exact hearsLX f o A J hq ho q 0 (by omega) rfl
