theorem tm_1' {x y : Nat} (hx : 1 ≤ x) (hy : 1 ≤ y) : 1 ≤ tmW x y := by
  have : 1 ≤ x * y := Nat.mul_le_mul hx hy
  unfold tmW
  split
  · exact this
  · decide
theorem tm_2' {x y : Nat} (h : 2 ≤ x * y) : 2 ≤ tmW x y := by
  unfold tmW
  split
  · exact h
  · decide
theorem tm_z {x y : Nat} (h : x = 0) : tmW x y = 0 := by
  unfold tmW
  rw [h, Nat.zero_mul, if_pos (Nat.zero_le _)]
theorem pK_zero {E : Nat → Nat} {L : Nat → Nat → Nat} {K : Nat → Bool} {a b : Nat} : ∀ c, (∀ d, d < c → 20 ≤ E (a + 1 + d) → E (a + 1 + d) ≤ 24 → L a (a + 1 + d) = 0) → pK E L K a b c = 0
  | 0, _ => rfl
  | c + 1, h => by
    show pK E L K a b c + _ = 0
    rw [pK_zero c (fun d hd => h d (by omega))]
    split
    · rename_i q
      rw [tm_z (h c (by omega) q.1 q.2.1)]
    · rfl
theorem pK_one {E : Nat → Nat} {L : Nat → Nat → Nat} {K : Nat → Bool} {a b d0 : Nat} : ∀ c, (∀ d, d < c → d ≠ d0 → 20 ≤ E (a + 1 + d) → E (a + 1 + d) ≤ 24 → L a (a + 1 + d) = 0) → d0 < c → pK E L K a b c = if 20 ≤ E (a + 1 + d0) ∧ E (a + 1 + d0) ≤ 24 ∧ K (E (a + 1 + d0) - 18) = true then tmW (L a (a + 1 + d0)) (L (a + 1 + d0 + 1) b) else 0
  | 0, _, h => absurd h (Nat.not_lt_zero _)
  | c + 1, h, hd => by
    show pK E L K a b c + _ = _
    by_cases e : c = d0
    · subst e
      rw [pK_zero c (fun d hd => h d (by omega) (by omega)), Nat.zero_add]
    · rw [pK_one c (fun d hd => h d (by omega)) (by omega)]
      have : (if 20 ≤ E (a + 1 + c) ∧ E (a + 1 + c) ≤ 24 ∧ K (E (a + 1 + c) - 18) = true then tmW (L a (a + 1 + c)) (L (a + 1 + c + 1) b) else 0) = 0 := by
        split
        · rename_i q
          exact tm_z (h c (by omega) e q.1 q.2.1)
        · rfl
      rw [this, Nat.add_zero]
theorem pK_ge {E : Nat → Nat} {L : Nat → Nat → Nat} {K : Nat → Bool} {a b d : Nat} (h1 : 20 ≤ E (a + 1 + d)) (h2 : E (a + 1 + d) ≤ 24) (h3 : K (E (a + 1 + d) - 18) = true) : ∀ c, d < c → tmW (L a (a + 1 + d)) (L (a + 1 + d + 1) b) ≤ pK E L K a b c
  | 0, h => absurd h (Nat.not_lt_zero _)
  | c + 1, h => by
    show _ ≤ pK E L K a b c + _
    by_cases e : d = c
    · subst e
      rw [if_pos ⟨h1, h2, h3⟩]
      exact Nat.le_add_left _ _
    · exact Nat.le_trans (pK_ge h1 h2 h3 c (by omega)) (Nat.le_add_right _ _)
theorem pK_ge2 {E : Nat → Nat} {L : Nat → Nat → Nat} {K : Nat → Bool} {a b d e : Nat} (hde : d < e) (h1 : 20 ≤ E (a + 1 + d)) (h2 : E (a + 1 + d) ≤ 24) (h3 : K (E (a + 1 + d) - 18) = true) (g1 : 20 ≤ E (a + 1 + e)) (g2 : E (a + 1 + e) ≤ 24) (g3 : K (E (a + 1 + e) - 18) = true) : ∀ c, e < c → tmW (L a (a + 1 + d)) (L (a + 1 + d + 1) b) + tmW (L a (a + 1 + e)) (L (a + 1 + e + 1) b) ≤ pK E L K a b c
  | 0, h => absurd h (Nat.not_lt_zero _)
  | c + 1, h => by
    show _ ≤ pK E L K a b c + _
    by_cases q : e = c
    · subst q
      rw [if_pos ⟨g1, g2, g3⟩]
      exact Nat.add_le_add_right (pK_ge h1 h2 h3 e hde) _
    · exact Nat.le_trans (pK_ge2 hde h1 h2 h3 g1 g2 g3 c (by omega)) (Nat.le_add_right _ _)
theorem neV_k {E : Nat → Nat} {G : Nat → Int32} {L : Nat → Nat → Nat} {K : Nat → Bool} {i j k : Nat} (h : keV E G i j = k) (hk : k < 10) : neV E G L K i j = if K k = true then (if k ≤ 1 then 1 else L (pfN k i) (ptN k j)) else 0 := by
  unfold neV
  rw [h]
  by_cases q : K k = true
  · rw [if_neg (fun w => w.elim (by omega) (fun w => w q)), if_pos q]
  · rw [if_pos (Or.inr q), if_neg q]
theorem neV_10 {E : Nat → Nat} {G : Nat → Int32} {L : Nat → Nat → Nat} {K : Nat → Bool} {i j : Nat} (h : keV E G i j = 10) : neV E G L K i j = 0 := by
  unfold neV
  rw [if_pos (Or.inl h)]
theorem keV_0 {E : Nat → Nat} {G : Nat → Int32} {i j : Nat} (h : E i < 10) (g : G (E i) = 0) : keV E G i j = if j - i = 1 then 0 else 10 := by
  unfold keV
  rw [if_pos h, if_pos g]
theorem keV_9 {E : Nat → Nat} {G : Nat → Int32} {i j : Nat} (h : E i < 10) (g : ¬ G (E i) = 0) (h2 : 2 < j - i) (h3 : E (i + 1) = 28) : keV E G i j = 9 := by
  unfold keV
  rw [if_pos h, if_neg g, if_pos ⟨h2, h3⟩]
theorem keV_7 {E : Nat → Nat} {G : Nat → Int32} {i j : Nat} (h : E i = 25) (h2 : 1 < j - i) : keV E G i j = 7 := by
  unfold keV
  rw [if_neg (show ¬ E i < 10 by omega), if_pos h, if_pos h2]
theorem keV_8 {E : Nat → Nat} {G : Nat → Int32} {i j : Nat} (h : E i = 26) : keV E G i j = if 2 < j - i ∧ E (j - 1) = 27 then 8 else 10 := by
  unfold keV
  rw [if_neg (show ¬ E i < 10 by omega), if_neg (show ¬ E i = 25 by omega), if_pos h]
theorem keV_1 {E : Nat → Nat} {G : Nat → Int32} {i j : Nat} (h1 : 10 ≤ E i) (h2 : ¬ E i = 25) (h3 : ¬ E i = 26) : keV E G i j = if isNumB E i j = true then 1 else 10 := by
  unfold keV
  rw [if_neg (show ¬ E i < 10 by omega), if_neg h2, if_neg h3]
/-- a READING of more than it should be is none -/
theorem nb_pre {E : Nat → Nat} {a b m : Nat} (h1 : a ≤ m) (h2 : m ≤ b) (h : spn (gP E) a m < spn (gQ E) a m) : ¬ bal E a b := fun q => by
  have := q.2 m h1 h2
  omega
theorem nb_tot {E : Nat → Nat} {a b : Nat} (h : spn (gQ E) a b < spn (gP E) a b) : ¬ bal E a b := fun q => by
  have := q.1
  omega
section FEW
variable {A : Nat → Nat → Int32} {E : Nat → Nat} {b : Nat → Bool} {lt : Nat → Nat → Bool} {L : Nat → Nat → Nat} {h : Nat}
theorem L_0 (hL : ∀ i j, i < j → j ≤ h → L i j = tS E (A 6) lt L i j) {i j : Nat} (hij : i < j) (hj : j ≤ h) (hb : ¬ bal E i j) : L i j = 0 := by
  rcases Nat.eq_zero_or_pos (L i j) with e | e
  · exact e
  · exact absurd (L_bal hL (j - i) i j hij hj (Nat.le_refl _) e) hb
theorem bS_0 (hL : ∀ i j, i < j → j ≤ h → L i j = tS E (A 6) lt L i j) {i j : Nat} (hj : j ≤ h) (hb : ¬ bal E i j) (K : Nat → Bool) : bS E (A 6) L K i j = 0 := by
  rcases Nat.eq_zero_or_pos (bS E (A 6) L K i j) with e | e
  · exact e
  · obtain ⟨k, k1, k2, k3⟩ := kS_pos 10 e
    exact absurd (wi_bal k1 (fun c d q1 q2 q3 q4 q5 => L_bal hL (d - c) c d q2 (by omega) (Nat.le_refl _) q5) k3) hb
/-- where nothing leaves a doubt there is one READING -/
theorem SD_A (hh : h ≤ 20) (hL : ∀ i j, i < j → j ≤ h → L i j = tS E (A 6) lt L i j) (hB : ∀ i j, i < j → j ≤ h → L i j ≤ 5 ^ (j - i - 1)) (l0 : ∀ k, lt k 0 = true) (l1 : ∀ k, lt k 1 = mayN k) : ∀ (z : Nat) (x : Int32) (i p q : Nat), SD A E b z x i p q → DD A b z x i → rtW A z x → q ≤ h → L p q = 1
  | 0, _, _, _, _, hs, _, _, _ => hs.elim
  | z + 1, x, i, p, q, ⟨n, k, ex, hn, hk, h0, hs⟩, hD, hr, hq => by
    subst ex
    obtain ⟨d1, d2, d3, d4⟩ := hD n k rfl hn hk h0
    obtain ⟨r1, r2, r3⟩ := rtW_n hn hr
    have lz := fun (x : Int32) (i p q : Nat) (hs : SD A E b z x i p q) => SD_lt z x i p q hs
    have bz := fun (x : Int32) (i p q : Nat) (hs : SD A E b z x i p q) => SD_bal z x i p q hs
    have core : ∀ a c, SB A E (SD A E b z) (kbW A z) k n i a c → c ≤ h → (∀ K, bS E (A 6) L K a c = if K k = true then 1 else 0) ∧ (brE E a c → bS E (A 6) L mayN (a + 1) (c - 1) = 0) := by
      intro a c hSB hc
      have hac := SB_lt (SD_lt z) hSB
      have hBD : BD L a c := fun i' j' _ q2 q3 _ => hB i' j' q2 (by omega)
      have eq := fun K => bS_eq (E := E) (G := A 6) hBD hac (by omega) K
      rcases hSB with ⟨e0, e, e1, e9⟩ | ⟨e0, _, hm⟩ | ⟨e7, e, r⟩ | ⟨e8, e, e2, r⟩ | ⟨e9k, e1, e9, e, r⟩ | ⟨k2, k6, m, e, r, s⟩
      · subst e0
        have hG : A 6 (E a) = 0 := by
          have := r1.1 h0
          rwa [e1, nI_clamp (by omega)] at this
        refine ⟨fun K => ?_, fun w => absurd w.1 (by omega)⟩
        rw [eq K, show c - 1 - (a + 1) = 0 by omega, neV_k (k := 0) (by rw [keV_0 e9 hG, if_pos (by omega)]) (by decide)]
        show 0 + _ = _
        rw [Nat.zero_add]
        rfl
      · subst e0
        have hn := (isNumB_at hm).2.2
        have ha := hn a (Nat.le_refl _) hac
        refine ⟨fun K => ?_, fun w => absurd w.1 (by omega)⟩
        rw [eq K, pK_zero _ (fun d hd h1 h2 => by have := hn (a + 1 + d) (by omega) (by omega); omega), neV_k (k := 1) (by rw [keV_1 (by omega) (by omega) (by omega), if_pos hm]) (by decide), Nat.zero_add]
        rfl
      · subst e7
        rw [show (i + if mayN 7 = true then 1 else 0) = i + 1 from rfl] at d1 d3
        have hlt := lz _ _ _ _ r
        have no := SD_NOp z _ _ _ _ r d3 (fun w => d1 (Or.inl ⟨w, Or.inr (Or.inl rfl)⟩))
        have nu0 := nu_of (E := E) (x := a) (by omega)
        refine ⟨fun K => ?_, fun w => absurd w.1 (by omega)⟩
        rw [eq K, pK_zero _ (fun d hd h1 h2 => L_0 hL (by omega) (by omega) (nb_tot (NOp_cons nu0 (by omega) no (a + 1 + d) (by omega) (by omega) h1 h2))), neV_k (k := 7) (keV_7 e (by omega)) (by decide), Nat.zero_add]
        show (if K 7 = true then L (a + 1) c else 0) = _
        rw [SD_A hh hL hB l0 l1 z _ _ _ _ r d3 r2 hc]
      · subst e8
        rw [show (i + if mayN 8 = true then 1 else 0) = i from rfl] at d3
        have hlt := lz _ _ _ _ r
        have br := bal_br (by omega) (Or.inl e) (Or.inl e2) (bz _ _ _ _ r)
        refine ⟨fun K => ?_, fun w => absurd w.1 (by omega)⟩
        rw [eq K, pK_zero _ (fun d hd h1 h2 => L_0 hL (by omega) (by omega) (nb_tot (br.2 (a + 1 + d) (by omega) (by omega)))), neV_k (k := 8) (by rw [keV_8 e, if_pos ⟨by omega, e2⟩]) (by decide), Nat.zero_add]
        show (if K 8 = true then L (a + 1) (c - 1) else 0) = _
        rw [SD_A hh hL hB l0 l1 z _ _ _ _ r d3 r2 (by omega)]
      · subst e9k
        rw [show (i + if mayN 9 = true then 1 else 0) = i + 1 from rfl] at d1 d3
        have hlt := lz _ _ _ _ r
        have no := SD_NOp z _ _ _ _ r d3 (fun w => d1 (Or.inl ⟨w, Or.inr (Or.inr rfl)⟩))
        have no2 := NOp_cons (nu_of (E := E) (x := a) (by omega)) (by omega) (NOp_cons (nu_of (E := E) (x := a + 1) (by omega)) (by omega) no)
        have hG : ¬ A 6 (E a) = 0 := by
          have := r1.2 h0
          rwa [e1, nI_clamp (by omega)] at this
        refine ⟨fun K => ?_, fun w => absurd w.1 (by omega)⟩
        rw [eq K, pK_zero _ (fun d hd h1 h2 => L_0 hL (by omega) (by omega) (nb_tot (no2 (a + 1 + d) (by omega) (by omega) h1 h2))), neV_k (k := 9) (keV_9 e9 hG (by omega) e) (by decide), Nat.zero_add]
        show (if K 9 = true then L (a + 2) c else 0) = _
        rw [SD_A hh hL hB l0 l1 z _ _ _ _ r d3 r2 hc]
      · have mk : mayN k = true := may_i (Or.inl ⟨k2, k6⟩)
        rw [if_pos mk] at d1 d2 d3 d4
        have hl1 := lz _ _ _ _ r
        have hl2 := lz _ _ _ _ s
        have noX := SD_NOp z _ _ _ _ r d3 (fun w => d1 (Or.inl ⟨w, Or.inl ⟨k2, k6⟩⟩))
        have noY := SD_NOp z _ _ _ _ s d4 (fun w => d2 (Or.inl ⟨w, Or.inl ⟨k2, k6⟩⟩))
        have bX := bz _ _ _ _ r
        have numm := nu_of (E := E) (x := m) (by omega)
        have oth : ∀ d, d < c - 1 - (a + 1) → d ≠ m - (a + 1) → 20 ≤ E (a + 1 + d) → E (a + 1 + d) ≤ 24 → L a (a + 1 + d) = 0 := fun d hd hne h1 h2 => by
          refine L_0 hL (by omega) (by omega) (nb_tot ?_)
          rcases Nat.lt_or_ge (a + 1 + d) m with w | w
          · exact noX (a + 1 + d) (by omega) w h1 h2
          · rw [spn_split _ (show a ≤ m by omega) (show m ≤ a + 1 + d by omega), spn_split (gP E) (show a ≤ m by omega) (show m ≤ a + 1 + d by omega), spn_cons _ (show m < a + 1 + d by omega), spn_cons (gP E) (show m < a + 1 + d by omega), numm.1, numm.2, bX.1]
            have := noY (a + 1 + d) (by omega) (by omega) h1 h2
            omega
        have epK : ∀ K, pK E L K a c (c - 1 - (a + 1)) = if K k = true then 1 else 0 := fun K => by
          rw [pK_one (d0 := m - (a + 1)) _ oth (by omega), show a + 1 + (m - (a + 1)) = m by omega, e, show 18 + k - 18 = k by omega, SD_A hh hL hB l0 l1 z _ _ _ _ r d3 r2 (by omega), SD_A hh hL hB l0 l1 z _ _ _ _ s d4 r3 hc]
          by_cases w : K k = true
          · rw [if_pos ⟨by omega, by omega, w⟩, if_pos w]
            rfl
          · rw [if_neg (fun v => w v.2.2), if_neg w]
        -- how x begins
        have first : neV E (A 6) L (fun _ => true) a c = 0 ∧ (brE E a c → bS E (A 6) L mayN (a + 1) (c - 1) = 0) := by
          obtain ⟨z', hz'⟩ : ∃ z', z = z' + 1 := by
            cases z with
            | zero => exact r.elim
            | succ z' => exact ⟨z', rfl⟩
          subst hz'
          obtain ⟨nx, kx, ex, hnx, hkx, h0x, hx⟩ := r
          have rx := r2
          rw [ex] at rx
          obtain ⟨rx1, _, _⟩ := rtW_n hnx rx
          have ekx : kdN A (A 2 n) = kx := by rw [ex]; exact kdN_n hnx hkx h0x
          rw [ekx] at d1
          rcases hx with ⟨hnk, hx⟩ | ⟨_, _, x1, x2, hx⟩
          · rcases hx with ⟨q0, q1, q2, q3⟩ | ⟨q0, q1, q2⟩ | ⟨q0, _⟩ | ⟨q0, q1, q2, q3⟩ | ⟨q0, _⟩ | ⟨q1, q2, _⟩
            · subst q0
              have hG : A 6 (E a) = 0 := by
                have := rx1.1 h0x
                rwa [q2, nI_clamp (by omega)] at this
              exact ⟨neV_10 (by rw [keV_0 q3 hG, if_neg (by omega)]), fun w => absurd w.1 (by omega)⟩
            · have hnn := (isNumB_at q2).2.2 a (Nat.le_refl _) q1
              exact ⟨neV_10 (by rw [keV_1 (by omega) (by omega) (by omega), if_neg (fun w => by have := (isNumB_at w).2.2 m (by omega) (by omega); omega)]), fun w => absurd w.1 (by omega)⟩
            · exact absurd ⟨may_i (Or.inr (Or.inl q0)), d1 (Or.inr ⟨trivial, Or.inl q0, k2, k6⟩)⟩ hnk
            · have q4 := SD_lt z' _ _ _ _ q3
              refine ⟨?_, fun w => absurd w.1 (by omega)⟩
              by_cases w : 2 < c - a ∧ E (c - 1) = 27
              · rw [neV_k (k := 8) (by rw [keV_8 q1, if_pos w]) (by decide), if_pos rfl]
                show L (a + 1) (c - 1) = 0
                refine L_0 hL (by omega) (by omega) (nb_pre (m := m) (by omega) (by omega) ?_)
                have bb := SD_bal z' _ _ _ _ q3
                have cc := cl_of (E := E) (x := m - 1) (Or.inl q2)
                rw [spn_snoc _ (show a + 1 < m by omega), spn_snoc (gQ E) (show a + 1 < m by omega), cc.1, cc.2, bb.1]
                omega
              · exact neV_10 (by rw [keV_8 q1, if_neg w])
            · exact absurd ⟨may_i (Or.inr (Or.inr q0)), d1 (Or.inr ⟨trivial, Or.inr q0, k2, k6⟩)⟩ hnk
            · exact absurd ⟨may_i (Or.inl ⟨q1, q2⟩), d1 (Or.inl ⟨⟨q1, q2⟩, Or.inl ⟨k2, k6⟩⟩)⟩ hnk
          · refine ⟨neV_10 (by rw [keV_1 (by omega) (by omega) (by omega), if_neg (fun w => by have := (isNumB_at w).2.2 a (Nat.le_refl _) (by omega); omega)]), fun w => ?_⟩
            · have hl := SB_lt (SD_lt z') hx
              refine bS_0 hL (by omega) (nb_pre (m := m) (by omega) (by omega) ?_) _
              have bb := SB_bal (SD_lt z') (SD_bal z') hx
              have cc := cl_of (E := E) (x := m - 1) (Or.inr x2)
              rw [spn_snoc _ (show a + 1 < m by omega), spn_snoc (gQ E) (show a + 1 < m by omega), cc.1, cc.2, bb.1]
              omega
        refine ⟨fun K => ?_, first.2⟩
        have ne0 : neV E (A 6) L K a c = 0 := by
          have f1 := first.1
          unfold neV at f1 ⊢
          split
          · rfl
          · rename_i w
            rw [if_neg (fun v => w (v.imp id (fun v => absurd rfl v)))] at f1
            exact f1
        rw [eq K, epK K, ne0, Nat.add_zero]
    have kl : (fun k => lt k 1) = mayN := funext l1
    have kl0 : (fun k => lt k 0) = (fun _ => true) := funext l0
    have hpq := SD_lt (z + 1) (nI n) i p q ⟨n, k, rfl, hn, hk, h0, hs⟩
    rw [hL p q hpq hq]
    unfold tS
    rw [kl, kl0]
    rcases hs with ⟨_, hs⟩ | ⟨mk, _, e1, e2, hs⟩
    · obtain ⟨c1, c2⟩ := core p q hs hq
      rw [c1, if_pos rfl]
      by_cases w : brE E p q
      · rw [if_pos w, c2 w]
      · rw [if_neg w]
    · have hl := SB_lt (SD_lt z) hs
      obtain ⟨c1, c2⟩ := core (p + 1) (q - 1) hs (by omega)
      rw [if_pos ⟨e1, e2⟩, c1, if_pos mk]
      have hBD : BD L p q := fun i' j' _ q2 q3 _ => hB i' j' q2 (by omega)
      have br := bal_br (by omega) (Or.inr e1) (Or.inr e2) (SB_bal (SD_lt z) (SD_bal z) hs)
      rw [bS_eq (E := E) (G := A 6) hBD (by omega) (by omega), pK_zero _ (fun d hd h1 h2 => L_0 hL (by omega) (by omega) (nb_tot (br.2 (p + 1 + d) (by omega) (by omega)))), neV_10 (by rw [keV_1 (by omega) (by omega) (by omega), if_neg (fun w => by have := (isNumB_at w).2.2 p (Nat.le_refl _) (by omega); omega)])]
/-- joining spans that are heard -/
theorem J_two (hL : ∀ i j, i < j → j ≤ h → L i j = tS E (A 6) lt L i j) (hB : ∀ i j, i < j → j ≤ h → L i j ≤ 5 ^ (j - i - 1)) (hh : h ≤ 20) (l0 : ∀ k, lt k 0 = true) {a m c : Nat} (h1 : a < m) (h2 : m + 1 < c) (hc : c ≤ h) (e1 : 20 ≤ E m) (e2 : E m ≤ 24) (x : 1 ≤ L a m) (y : 1 ≤ L (m + 1) c) : 1 ≤ L a c := by
  have hBD : BD L a c := fun i' j' _ q2 q3 _ => hB i' j' q2 (by omega)
  have kl0 : (fun k => lt k 0) = (fun _ => true) := funext l0
  rw [hL a c (by omega) hc]
  unfold tS
  rw [kl0, bS_eq (E := E) (G := A 6) hBD (by omega) (by omega)]
  have := pK_ge (E := E) (L := L) (K := fun _ => true) (a := a) (b := c) (d := m - (a + 1)) (by rw [show a + 1 + (m - (a + 1)) = m by omega]; exact e1) (by rw [show a + 1 + (m - (a + 1)) = m by omega]; exact e2) rfl (c - 1 - (a + 1)) (by omega)
  rw [show a + 1 + (m - (a + 1)) = m by omega] at this
  have t1 := tm_1' x y
  omega
theorem J_un (hL : ∀ i j, i < j → j ≤ h → L i j = tS E (A 6) lt L i j) (l0 : ∀ k, lt k 0 = true) {a c k : Nat} (k7 : 7 ≤ k) (k9 : k < 10) (hac : a < c) (hc : c ≤ h) (ke : keV E (A 6) a c = k) (x : 1 ≤ L (pfN k a) (ptN k c)) : 1 ≤ L a c := by
  rw [hL a c hac hc]
  unfold tS
  have kl0 : (fun k => lt k 0) = (fun _ => true) := funext l0
  have w := keV_c (E := E) (G := A 6) hac L k (by omega)
  rw [if_pos ke, if_neg (by omega)] at w
  have := kS_ge (K := fun _ => true) (w := fun k => wi E (A 6) L k a c) (k := k) rfl 10 k9
  rw [kl0]
  show 1 ≤ bS E (A 6) L (fun _ => true) a c + _
  unfold bS
  have : 1 ≤ kS (fun _ => true) (fun k => wi E (A 6) L k a c) 10 := by
    have h5 : wi E (A 6) L k a c ≤ kS (fun _ => true) (fun k => wi E (A 6) L k a c) 10 := this
    omega
  omega
/-- what is said is heard; and where a PART that would leave a doubt isn't KEPT, in two ways -/
theorem SD_B {u : Nat} (hu : u ≤ 120) (hT : tbI 0 u A) (hh : h ≤ 20) (hL : ∀ i j, i < j → j ≤ h → L i j = tS E (A 6) lt L i j) (hB : ∀ i j, i < j → j ≤ h → L i j ≤ 5 ^ (j - i - 1)) (l0 : ∀ k, lt k 0 = true) (l1 : ∀ k, lt k 1 = mayN k) : ∀ (z : Nat) (x : Int32) (i p q : Nat), SD A E b z x i p q → pt 0 u A z x → rtW A z x → q ≤ h → 1 ≤ L p q ∧ (¬ DD A b z x i → 2 ≤ L p q) ∧ (prN (kdN A x) → ¬ b i = true → ∃ m, p < m ∧ m + 1 < q ∧ 20 ≤ E m ∧ E m ≤ 24 ∧ 1 ≤ L p m ∧ 1 ≤ L (m + 1) q) ∧ (pxN (kdN A x) → ¬ b i = true → ∃ kx, pxN kx ∧ pfN kx p < q ∧ 1 ≤ L (pfN kx p) q ∧ ∀ c, q < c → c ≤ h → keV E (A 6) p c = kx)
  | 0, _, _, _, _, hs, _, _, _ => hs.elim
  | z + 1, x, i, p, q, ⟨n, k, ex, hn, hk, h0, hs⟩, hx, hr, hq => by
    subst ex
    obtain ⟨r1, r2, r3⟩ := rtW_n hn hr
    have hsu : n < u ∧ szN A n ≤ z + 1 := by
      rcases hx with e | ⟨n', e, _, hn', hz⟩
      · exact absurd e.symm (m2_nI hn)
      · have : n = n' := (nI_eq (by omega) (by omega)).mp e
        subst this
        exact ⟨hn', hz⟩
    obtain ⟨p2, p3⟩ := rN_parts hT (Nat.zero_le _) hsu.1 hsu.2
    have hval : (k < 2 → A 2 n = m2 ∧ A 3 n = m2) ∧ (7 ≤ k → A 3 n = m2) := by
      obtain ⟨k', h0', _, hs', _⟩ := rN_val (hT n (Nat.zero_le _) hsu.1)
      have e2 : k = k' := (nI_eq (by omega) (by omega)).mp (h0.symm.trans h0')
      subst e2
      rcases hs' with ⟨_, a2, a3, _⟩ | ⟨a1, a2, _⟩ | ⟨a1, _, _, _, _, a3, _⟩
      · exact ⟨fun _ => ⟨a2, a3⟩, fun _ => a3⟩
      · exact ⟨fun _ => by omega, fun _ => by omega⟩
      · exact ⟨fun _ => by omega, fun _ => a3⟩
    have ddm : ∀ z' j, DD A b z' m2 j := fun z' j => by
      cases z' with
      | zero => trivial
      | succ z' => exact fun n'' k'' en'' hn'' => absurd en'' (m2_nI hn'')
    have kdm : kdN A m2 = 10 := if_pos (by decide)
    have lz := fun (x : Int32) (i p q : Nat) (hs : SD A E b z x i p q) => SD_lt z x i p q hs
    have ihB := fun (x : Int32) (i p q : Nat) (hs : SD A E b z x i p q) (hx : pt 0 u A z x) (hr : rtW A z x) (hq : q ≤ h) => SD_B hu hT hh hL hB l0 l1 z x i p q hs hx hr hq
    have ndd : ¬ DD A b (z + 1) (nI n) i → ¬ ((dbN k (kdN A (A 2 n)) True → b (i + if mayN k = true then 1 else 0) = true) ∧ (dbN k (kdN A (A 3 n)) False → b ((i + if mayN k = true then 1 else 0) + kbW A z (A 2 n)) = true) ∧ DD A b z (A 2 n) (i + if mayN k = true then 1 else 0) ∧ DD A b z (A 3 n) ((i + if mayN k = true then 1 else 0) + kbW A z (A 2 n))) := fun w v => w (fun n' k' en hn' hk' h0' => by
      have e1 : n = n' := (nI_eq (by omega) (by omega)).mp en
      subst e1
      have e2 : k = k' := (nI_eq (by omega) (by omega)).mp (h0.symm.trans h0')
      subst e2
      exact v)
    have core : ∀ a c, SB A E (SD A E b z) (kbW A z) k n i a c → c ≤ h → ∀ K : Nat → Bool, K k = true → (∀ j, mayN j = true → K j = true) → 1 ≤ bS E (A 6) L K a c ∧ (¬ DD A b (z + 1) (nI n) i → 2 ≤ bS E (A 6) L K a c) := by
      intro a c hSB hc K hKk hKm
      have hac := SB_lt (SD_lt z) hSB
      have hBD : BD L a c := fun i' j' _ q2 q3 _ => hB i' j' q2 (by omega)
      rw [bS_eq (E := E) (G := A 6) hBD hac (by omega) K]
      have lf : A 2 n = m2 → A 3 n = m2 → DD A b (z + 1) (nI n) i := fun e2 e3 n' k' en hn' hk' h0' => by
        have e1 : n = n' := (nI_eq (by omega) (by omega)).mp en
        subst e1
        have d0 : kdN A m2 = 10 := if_pos (by decide)
        rw [e2, e3, d0]
        exact ⟨fun w => by unfold dbN prN pxN at w; omega, fun w => by unfold dbN prN pxN at w; omega, ddm _ _, ddm _ _⟩
      rcases hSB with ⟨e0, e, e1, e9⟩ | ⟨e0, _, hm⟩ | ⟨e7, e, r⟩ | ⟨e8, e, e2, r⟩ | ⟨e9k, e1, e9, e, r⟩ | ⟨k2, k6, m, e, r, s⟩
      · subst e0
        have hG : A 6 (E a) = 0 := by
          have := r1.1 h0
          rwa [e1, nI_clamp (by omega)] at this
        rw [neV_k (k := 0) (by rw [keV_0 e9 hG, if_pos (by omega)]) (by decide), if_pos hKk, if_pos (by decide)]
        refine ⟨by omega, fun w => absurd (lf (hval.1 (by decide)).1 (hval.1 (by decide)).2) w⟩
      · subst e0
        have hn := (isNumB_at hm).2.2
        have ha := hn a (Nat.le_refl _) hac
        rw [neV_k (k := 1) (by rw [keV_1 (by omega) (by omega) (by omega), if_pos hm]) (by decide), if_pos hKk, if_pos (by decide)]
        refine ⟨by omega, fun w => absurd (lf (hval.1 (by decide)).1 (hval.1 (by decide)).2) w⟩
      · subst e7
        have hlt := lz _ _ _ _ r
        obtain ⟨i1, i2, i3, i4⟩ := ihB _ _ _ _ r p2 r2 hc
        have nv : neV E (A 6) L K a c = L (a + 1) c := by
          rw [neV_k (k := 7) (keV_7 e (by omega)) (by decide), if_pos hKk]
          rfl
        rw [nv]
        refine ⟨by omega, fun w => ?_⟩
        have w := ndd w
        rw [show (i + if mayN 7 = true then 1 else 0) = i + 1 from rfl, hval.2 (by decide)] at w
        by_cases g : DD A b z (A 2 n) (i + 1)
        · have dr : prN (kdN A (A 2 n)) ∧ ¬ b (i + 1) = true := by
            rcases Classical.em (prN (kdN A (A 2 n)) ∧ ¬ b (i + 1) = true) with v | v
            · exact v
            · exact absurd ⟨fun d => by
                rcases d with d | d
                · rcases Classical.em (b (i + 1) = true) with u | u
                  · exact u
                  · exact absurd ⟨d.1, u⟩ v
                · exact absurd d.2.2 (by unfold prN; omega), fun d => by rw [kdm] at d; unfold dbN prN pxN at d; omega, g, ddm _ _⟩ w
          obtain ⟨m, w1, w2, w3, w4, w5, w6⟩ := i3 dr.1 dr.2
          have := pK_ge (E := E) (L := L) (K := K) (a := a) (b := c) (d := m - (a + 1)) (by rw [show a + 1 + (m - (a + 1)) = m by omega]; exact w3) (by rw [show a + 1 + (m - (a + 1)) = m by omega]; exact w4) (by rw [show a + 1 + (m - (a + 1)) = m by omega]; exact hKm _ (may_i (Or.inl ⟨by omega, by omega⟩))) (c - 1 - (a + 1)) (by omega)
          rw [show a + 1 + (m - (a + 1)) = m by omega] at this
          have t1 := tm_1' (J_un hL l0 (k := 7) (by decide) (by decide) (by omega) (by omega) (keV_7 e (by omega)) w5) w6
          omega
        · have := i2 g
          omega
      · subst e8
        have hlt := lz _ _ _ _ r
        obtain ⟨i1, i2, i3, i4⟩ := ihB _ _ _ _ r p2 r2 (by omega)
        have nv : neV E (A 6) L K a c = L (a + 1) (c - 1) := by
          rw [neV_k (k := 8) (by rw [keV_8 e, if_pos ⟨by omega, e2⟩]) (by decide), if_pos hKk]
          rfl
        rw [nv]
        refine ⟨by omega, fun w => ?_⟩
        have w := ndd w
        rw [show (i + if mayN 8 = true then 1 else 0) = i from rfl, hval.2 (by decide)] at w
        by_cases g : DD A b z (A 2 n) i
        · exact absurd ⟨fun d => by unfold dbN prN pxN at d; omega, fun d => by rw [kdm] at d; unfold dbN prN pxN at d; omega, g, ddm _ _⟩ w
        · have := i2 g
          omega
      · subst e9k
        have hlt := lz _ _ _ _ r
        have hG : ¬ A 6 (E a) = 0 := by
          have := r1.2 h0
          rwa [e1, nI_clamp (by omega)] at this
        obtain ⟨i1, i2, i3, i4⟩ := ihB _ _ _ _ r p2 r2 hc
        have nv : neV E (A 6) L K a c = L (a + 2) c := by
          rw [neV_k (k := 9) (keV_9 e9 hG (by omega) e) (by decide), if_pos hKk]
          rfl
        rw [nv]
        refine ⟨by omega, fun w => ?_⟩
        have w := ndd w
        rw [show (i + if mayN 9 = true then 1 else 0) = i + 1 from rfl, hval.2 (by decide)] at w
        by_cases g : DD A b z (A 2 n) (i + 1)
        · have dr : prN (kdN A (A 2 n)) ∧ ¬ b (i + 1) = true := by
            rcases Classical.em (prN (kdN A (A 2 n)) ∧ ¬ b (i + 1) = true) with v | v
            · exact v
            · exact absurd ⟨fun d => by
                rcases d with d | d
                · rcases Classical.em (b (i + 1) = true) with u | u
                  · exact u
                  · exact absurd ⟨d.1, u⟩ v
                · exact absurd d.2.2 (by unfold prN; omega), fun d => by rw [kdm] at d; unfold dbN prN pxN at d; omega, g, ddm _ _⟩ w
          obtain ⟨m, w1, w2, w3, w4, w5, w6⟩ := i3 dr.1 dr.2
          have := pK_ge (E := E) (L := L) (K := K) (a := a) (b := c) (d := m - (a + 1)) (by rw [show a + 1 + (m - (a + 1)) = m by omega]; exact w3) (by rw [show a + 1 + (m - (a + 1)) = m by omega]; exact w4) (by rw [show a + 1 + (m - (a + 1)) = m by omega]; exact hKm _ (may_i (Or.inl ⟨by omega, by omega⟩))) (c - 1 - (a + 1)) (by omega)
          rw [show a + 1 + (m - (a + 1)) = m by omega] at this
          have t1 := tm_1' (J_un hL l0 (k := 9) (by decide) (by decide) (by omega) (by omega) (keV_9 e9 hG (by omega) e) w5) w6
          omega
        · have := i2 g
          omega
      · have mk : mayN k = true := may_i (Or.inl ⟨k2, k6⟩)
        have hl1 := lz _ _ _ _ r
        have hl2 := lz _ _ _ _ s
        obtain ⟨i1, i2, i3, i4⟩ := ihB _ _ _ _ r p2 r2 (by omega)
        obtain ⟨j1, j2, j3, j4⟩ := ihB _ _ _ _ s p3 r3 hc
        have em : a + 1 + (m - (a + 1)) = m := by omega
        have K3 : ∀ t, 20 ≤ E t → E t ≤ 24 → K (E t - 18) = true := fun t t1 t2 => hKm _ (may_i (Or.inl ⟨by omega, by omega⟩))
        have ge := pK_ge (E := E) (L := L) (K := K) (a := a) (b := c) (d := m - (a + 1)) (by rw [em]; omega) (by rw [em]; omega) (by rw [em]; exact K3 m (by omega) (by omega)) (c - 1 - (a + 1)) (by omega)
        rw [em] at ge
        refine ⟨by have := tm_1' i1 j1; omega, fun w => ?_⟩
        have w := ndd w
        rw [if_pos mk] at w
        by_cases g : DD A b z (A 2 n) (i + 1)
        · by_cases g2 : DD A b z (A 3 n) (i + 1 + kbW A z (A 2 n))
          · rcases Classical.em (dbN k (kdN A (A 2 n)) True → b (i + 1) = true) with v | v
            · -- y is a pair that isn't KEPT
              have dr : prN (kdN A (A 3 n)) ∧ ¬ b (i + 1 + kbW A z (A 2 n)) = true := by
                rcases Classical.em (prN (kdN A (A 3 n)) ∧ ¬ b (i + 1 + kbW A z (A 2 n)) = true) with v2 | v2
                · exact v2
                · exact absurd ⟨v, fun d => by
                    rcases d with d | d
                    · rcases Classical.em (b (i + 1 + kbW A z (A 2 n)) = true) with u | u
                      · exact u
                      · exact absurd ⟨d.1, u⟩ v2
                    · exact d.1.elim, g, g2⟩ w
              obtain ⟨t, w1, w2, w3, w4, w5, w6⟩ := j3 dr.1 dr.2
              have et : a + 1 + (t - (a + 1)) = t := by omega
              have g2' := pK_ge2 (E := E) (L := L) (K := K) (a := a) (b := c) (d := m - (a + 1)) (e := t - (a + 1)) (by omega) (by rw [em]; omega) (by rw [em]; omega) (by rw [em]; exact K3 m (by omega) (by omega)) (by rw [et]; omega) (by rw [et]; omega) (by rw [et]; exact K3 t (by omega) (by omega)) (c - 1 - (a + 1)) (by omega)
              rw [em, et] at g2'
              have t1 := tm_1' i1 j1
              have t2 := tm_1' (J_two hL hB hh l0 hl1 (by omega) (by omega) (by omega) (by omega) i1 w5) w6
              omega
            · have v1 : dbN k (kdN A (A 2 n)) True ∧ ¬ b (i + 1) = true := by
                rcases Classical.em (dbN k (kdN A (A 2 n)) True) with u | u
                · exact ⟨u, fun e => v (fun _ => e)⟩
                · exact absurd (fun d => absurd d u) v
              rcases Classical.em (prN (kdN A (A 2 n))) with px | px
              · obtain ⟨t, w1, w2, w3, w4, w5, w6⟩ := i3 px v1.2
                have et : a + 1 + (t - (a + 1)) = t := by omega
                have g2' := pK_ge2 (E := E) (L := L) (K := K) (a := a) (b := c) (d := t - (a + 1)) (e := m - (a + 1)) (by omega) (by rw [et]; omega) (by rw [et]; omega) (by rw [et]; exact K3 t (by omega) (by omega)) (by rw [em]; omega) (by rw [em]; omega) (by rw [em]; exact K3 m (by omega) (by omega)) (c - 1 - (a + 1)) (by omega)
                rw [em, et] at g2'
                have t1 := tm_1' i1 j1
                have t2 := tm_1' w5 (J_two hL hB hh l0 (show t + 1 < m by omega) (by omega) hc (by omega) (by omega) w6 j1)
                omega
              · have pp : pxN (kdN A (A 2 n)) := by
                  rcases v1.1 with d | d
                  · exact absurd d.1 px
                  · exact d.2.1
                obtain ⟨kx, w1, w3, w4, w2⟩ := i4 pp v1.2
                have w2 := w2 c (by omega) hc
                have nv : neV E (A 6) L K a c = L (pfN kx a) c := by
                  rw [neV_k (k := kx) w2 (by unfold pxN at w1; omega), if_pos (hKm _ (may_i (Or.inr w1))), if_neg (by unfold pxN at w1; omega)]
                  unfold ptN
                  rw [if_neg (by unfold pxN at w1; omega)]
                rw [nv]
                have t1 := tm_1' i1 j1
                have t2 := J_two hL hB hh l0 w3 (by omega) hc (by omega) (by omega) w4 j1
                omega
          · have t2 := j2 g2
            have t3 : 2 ≤ tmW (L a m) (L (m + 1) c) := tm_2' (Nat.le_trans t2 (Nat.le_mul_of_pos_left _ (by omega)))
            omega
        · have t2 := i2 g
          have t3 : 2 ≤ tmW (L a m) (L (m + 1) c) := tm_2' (Nat.le_trans t2 (Nat.le_mul_of_pos_right _ (by omega)))
          omega
    have kl : (fun k => lt k 1) = mayN := funext l1
    have kl0 : (fun k => lt k 0) = (fun _ => true) := funext l0
    have hpq := SD_lt (z + 1) (nI n) i p q ⟨n, k, rfl, hn, hk, h0, hs⟩
    rw [hL p q hpq hq]
    unfold tS
    rw [kl, kl0]
    rw [kdN_n hn hk h0]
    rcases hs with ⟨_, hs⟩ | ⟨mk, bt9, e1, e2, hs⟩
    · obtain ⟨c1, c2⟩ := core p q hs hq (fun _ => true) rfl (fun _ _ => rfl)
      refine ⟨Nat.le_trans c1 (Nat.le_add_right _ _), fun w => Nat.le_trans (c2 w) (Nat.le_add_right _ _), fun w _ => ?_, fun w _ => ?_⟩
      · unfold prN at w
        rcases hs with ⟨e, _⟩ | ⟨e, _⟩ | ⟨e, _⟩ | ⟨e, _⟩ | ⟨e, _⟩ | ⟨k2, k6, m, e, r, s⟩
        · omega
        · omega
        · omega
        · omega
        · omega
        · have a1 := lz _ _ _ _ r
          have a2 := lz _ _ _ _ s
          exact ⟨m, a1, a2, by omega, by omega, (ihB _ _ _ _ r p2 r2 (by omega)).1, (ihB _ _ _ _ s p3 r3 hq).1⟩
      · unfold pxN at w
        rcases hs with ⟨e, _⟩ | ⟨e, _⟩ | ⟨e7, e, r⟩ | ⟨e, _⟩ | ⟨e9k, e1, e9, e, r⟩ | ⟨k2, k6, _⟩
        · omega
        · omega
        · have a1 := lz _ _ _ _ r
          exact ⟨7, Or.inl rfl, a1, (ihB _ _ _ _ r p2 r2 hq).1, fun c c1 c2 => keV_7 e (by omega)⟩
        · omega
        · subst e9k
          have a1 := lz _ _ _ _ r
          have hG : ¬ A 6 (E p) = 0 := by
            have := r1.2 h0
            rwa [e1, nI_clamp (by omega)] at this
          exact ⟨9, Or.inr rfl, a1, (ihB _ _ _ _ r p2 r2 hq).1, fun c c1 c2 => keV_9 e9 hG (by omega) e⟩
        · omega
    · have hl := SB_lt (SD_lt z) hs
      obtain ⟨c1, c2⟩ := core (p + 1) (q - 1) hs (by omega) mayN mk (fun _ e => e)
      rw [if_pos ⟨e1, e2⟩]
      exact ⟨Nat.le_trans c1 (Nat.le_add_left _ _), fun w => Nat.le_trans (c2 w) (Nat.le_add_left _ _), fun _ w => absurd bt9 w, fun _ w => absurd bt9 w⟩
end FEW
