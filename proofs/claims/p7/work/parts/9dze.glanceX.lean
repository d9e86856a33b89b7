/-- how many words, what is m or more below one with one word each -/
noncomputable def glN (A : Nat → Nat → Int32) (s : Nat) : Nat → Int32 → Nat
  | 0, x => if x < 0 then 0 else 1
  | m + 1, x => if x < 0 then 0 else ownW A x.toNatClampNeg + (if A 7 (10 * s + (A 0 x.toNatClampNeg).toNatClampNeg) = 0 then 0 else 2) + glN A s m (A 2 x.toNatClampNeg) + glN A s m (A 3 x.toNatClampNeg)
theorem glN_m2 (A : Nat → Nat → Int32) (s m : Nat) : glN A s m m2 = 0 := by
  cases m with
  | zero => exact if_pos (by decide)
  | succ m => exact if_pos (by decide)
theorem glN_0 {A : Nat → Nat → Int32} {s n : Nat} (hn : n < 450) : glN A s 0 (nI n) = 1 := if_neg (nI_pos (by omega))
theorem glN_nI {A : Nat → Nat → Int32} {s m n k : Nat} (hn : n < 450) (hk : k < 10) (h0 : A 0 n = nI k) : glN A s (m + 1) (nI n) = ownW A n + (if A 7 (10 * s + k) = 0 then 0 else 2) + glN A s m (A 2 n) + glN A s m (A 3 n) := by
  show (if nI n < 0 then 0 else ownW A (nI n).toNatClampNeg + (if A 7 (10 * s + (A 0 (nI n).toNatClampNeg).toNatClampNeg) = 0 then 0 else 2) + glN A s m (A 2 (nI n).toNatClampNeg) + glN A s m (A 3 (nI n).toNatClampNeg)) = _
  rw [if_neg (nI_pos (by omega)), nI_clamp (by omega), h0, nI_clamp (by omega)]
theorem glN_le {lo hi : Nat} {A : Nat → Nat → Int32} (hh : hi ≤ 450) (hT : tbI lo hi A) (s : Nat) : ∀ (m n : Nat), lo ≤ n → n < hi → glN A s m (nI n) ≤ 6 * szN A n
  | 0, n, hlo, hn => by
    rw [glN_0 (by omega)]
    have := (rN_sz (hT n hlo hn)).1
    omega
  | m + 1, n, hlo, hn => by
    obtain ⟨k, h0, hk, hs, h40, hv⟩ := rN_val (hT n hlo hn)
    have ho := ownW_le A n
    have h7 : (if A 7 (10 * s + k) = 0 then 0 else 2) ≤ 2 := by split <;> omega
    rw [glN_nI (by omega) hk h0]
    rcases hs with ⟨k1, h2, h3, es⟩ | ⟨k1, k6, c, d, h2, la, hc, h3, lb, hd, es⟩ | ⟨k1, c, h2, la, hc, h3, es⟩
    · rw [h2, h3, glN_m2, es]
      omega
    · rw [h2, h3]
      have := glN_le hh hT s m c (by omega) (by omega)
      have := glN_le hh hT s m d (by omega) (by omega)
      omega
    · rw [h2, h3, glN_m2]
      have := glN_le hh hT s m c (by omega) (by omega)
      omega
theorem bl_s (m : Nat) : nI (m + 1) - Int32.ofInt 1 - Int32.ofInt 1 = nI m - Int32.ofInt 1 := by rw [nI_m1]
set_option maxHeartbeats 1000000 in
theorem tl_gl {u : Nat} (hu : u ≤ 120) {P A : Nat → Nat → Int32} (hT : tbI 0 u A) (hN : NR u P A) {kk : Int32} {s : Nat} (hk : ∀ k, k < 10 → (hbW kk (nI k) = 0 ↔ A 7 (10 * s + k) = 0)) : ∀ (m : Nat) (x : Int32), (x = m2 ∨ ∃ n, x = nI n ∧ n < u) → ∀ kept : Int32, (kept = 0 ↔ kpI A s x = 0) → (tlW (nI u) kk (Int32.ofInt 0) P m (cvI x) kept).length = glN A s m x
  | 0, x, hx, kept, _ => by
    rcases hx with rfl | ⟨n, rfl, hn⟩
    · rw [cvI_m2, glN_m2, tlW_0, if_neg (fun q => absurd q.1 (by decide))]
      rfl
    · rw [cvI_nI (by omega), glN_0 (by omega), tlW_0, if_pos (has_n hn hu)]
      rfl
  | m + 1, x, hx, kept, hkp => by
    rcases hx with rfl | ⟨n, rfl, hn⟩
    · rw [cvI_m2, glN_m2, tlW_s, if_neg (fun q => absurd q.1 (by decide))]
      rfl
    · obtain ⟨k, h0, hk9, hs, h40, hv⟩ := rN_val (hT n (Nat.zero_le _) hn)
      obtain ⟨n1, n2, n3, n4, n5, n6, n7, n8⟩ := hN n hn
      have part : ∀ y, (y = m2 ∨ ∃ a, y = nI a ∧ a < u) → ∀ kd fi, (tlW (nI u) kk (Int32.ofInt 0) P m (cvI y) (pkW (nI u) kk (Int32.ofInt 0) P kd (cvI y) fi)).length = glN A s m y := fun y hy kd fi => tl_gl hu hT hN hk m y hy _ (pk_kp hu hT hN hk (z := 40) (hy.elim Or.inl (fun ⟨a, e, ha⟩ => by rw [e]; exact pt_of hT (Nat.zero_le _) ha)) kd fi)
      have hown := ownW_c k h0
      have hco : (coW P (pkW (nI u) kk (Int32.ofInt 0) P) (tlW (nI u) kk (Int32.ofInt 0) P m) n).length = ownW A n + glN A s m (A 2 n) + glN A s m (A 3 n) := by
        unfold coW
        rw [n1, n3, n4, h0]
        rcases hs with ⟨k1, h2, h3, es⟩ | ⟨k1, k6, c, d, h2, la, hc, h3, lb, hd, es⟩ | ⟨k1, c, h2, la, hc, h3, es⟩
        · rcases (show k = 0 ∨ k = 1 by omega) with rfl | rfl
          · rw [if_pos rfl, hown.1 rfl, h2, h3, glN_m2]
            rfl
          · obtain ⟨v, hv9, e⟩ := hv.2.1 rfl
            rw [if_neg (by decide), if_pos rfl, hown.2.1 rfl, h2, h3, glN_m2, n2, e, cvI_nI (by omega), dg_WL, dgL_len]
            rfl
        · have nk : ∀ j, j = 0 ∨ j = 1 ∨ j = 7 ∨ j = 8 ∨ j = 9 → ¬ nI k = nI j := fun j hj e => by
            have := (nI_eq (by omega) (by omega)).mp e
            omega
          rw [if_neg (nk 0 (by omega)), if_neg (nk 1 (by omega)), if_neg (nk 7 (by omega)), if_neg (nk 8 (by omega)), if_neg (nk 9 (by omega)), List.length_append, List.length_cons, part _ (Or.inr ⟨c, h2, by omega⟩), part _ (Or.inr ⟨d, h3, by omega⟩), ownW_2 k1 k6 h0]
          omega
        · rcases (show k = 7 ∨ k = 8 ∨ k = 9 by omega) with rfl | rfl | rfl
          · rw [if_neg (by decide), if_neg (by decide), if_pos rfl, List.length_cons, part _ (Or.inr ⟨c, h2, by omega⟩), hown.2.2.1 rfl, h3, glN_m2]
            omega
          · rw [if_neg (by decide), if_neg (by decide), if_neg (by decide), if_pos rfl, List.length_cons, List.length_append, part _ (Or.inr ⟨c, h2, by omega⟩), hown.2.2.2.1 rfl, h3, glN_m2]
            show _ + 1 + 1 = _
            omega
          · rw [if_neg (by decide), if_neg (by decide), if_neg (by decide), if_neg (by decide), if_pos rfl, List.length_cons, List.length_cons, part _ (Or.inr ⟨c, h2, by omega⟩), hown.2.2.2.2 rfl, h3, glN_m2]
            omega
      rw [kpI_n (by omega) hk9 h0] at hkp
      rw [cvI_nI (by omega), tlW_s, if_pos (has_n hn hu), show nC (nI n) = n from nI_clamp (by omega), glN_nI (by omega) hk9 h0]
      by_cases q : kept = 0
      · rw [if_pos q, if_pos (hkp.mp q), hco]
        omega
      · rw [if_neg q, if_neg (fun w => q (hkp.mpr w)), List.length_cons, List.length_append, hco]
        show _ + 1 + 1 = _
        omega
/-- what glance answers -/
def gaR (b : Prop) (L : Nat → Nat → Nat) (x y R : Int32) : Prop := (R = Int32.ofInt (-1) ∧ ¬ ((0 ≤ x.toInt ∧ x.toInt ≤ 7) ∧ (0 ≤ y.toInt ∧ y.toInt ≤ 9))) ∨ (((0 ≤ x.toInt ∧ x.toInt ≤ 7) ∧ (0 ≤ y.toInt ∧ y.toInt ≤ 9)) ∧ ((¬ b ∧ R = c8 (-2)) ∨ (b ∧ ∃ s m, s < 8 ∧ m ≤ 9 ∧ x = nI s ∧ y = nI m ∧ ((80 < L s m ∧ R = c8 (-5)) ∨ (L s m ≤ 80 ∧ R = nI (L s m))))))
theorem gaR_same {b b' : Prop} {L L' : Nat → Nat → Nat} {x y R R' : Int32} (hb : b ↔ b') (hL : b → ∀ s m, s < 8 → m ≤ 9 → L s m = L' s m) (g : gaR b L x y R) (g' : gaR b' L' x y R') : R = R' := by
  rcases g with ⟨r, q⟩ | ⟨q, g⟩ <;> rcases g' with ⟨r', q'⟩ | ⟨q', g'⟩
  · rw [r, r']
  · exact absurd q' q
  · exact absurd q q'
  · rcases g with ⟨c, r⟩ | ⟨c, s, m, hs, hm, ex, ey, g⟩ <;> rcases g' with ⟨c', r'⟩ | ⟨c', s', m', hs', hm', ex', ey', g'⟩
    · rw [r, r']
    · exact absurd (hb.mpr c') c
    · exact absurd (hb.mp c) c'
    · have es : s = s' := (nI_eq (by omega) (by omega)).mp (ex.symm.trans ex')
      have em : m = m' := (nI_eq (by omega) (by omega)).mp (ey.symm.trans ey')
      subst es
      subst em
      rw [← hL c s m hs hm] at g'
      rcases g with ⟨c1, r⟩ | ⟨c1, r⟩ <;> rcases g' with ⟨c2, r'⟩ | ⟨c2, r'⟩
      · rw [r, r']
      · omega
      · omega
      · rw [r, r']
set_option maxHeartbeats 1000000 in
set_option maxRecDepth 20000 in
theorem cGlanceX (O : Nat → Int32) (P : Nat → Nat → Int32) (Y : Nat → Nat → Int64) (g : Nat → zC) {u : Nat} (hu : u ≤ 120) (h1 : O 1 = nI u) (hp : pgI u (P 2) (P 4) (P 5) (P 6)) {d : Nat} (hd : d < 40) (hO14 : O 14 = nI d) (hb : O 13 = 0 ∨ O 13 = 1) (hr : O 13 = 1 → ∃ t, t < u ∧ rtN t d (P 56)) (x y : Int32) : zK 30 zX6_glance [.ref 0, .int x, .int y] (wX O P Y g) (fun r w' => ∃ (O' : Nat → Int32) (P' : Nat → Nat → Int32) (R : Int32), r = some (.int R) ∧ w' = wX O' P' Y g ∧ spT O P O' P' ∧ gaR (O 13 = 1) (fun s m => (tlW (O 1) (P 75 s) (Int32.ofInt 0) P (m + 1) (P 56 d) (hbW (P 75 s) (P 2 (nC (P 56 d))))).length) x y R) := by
  refine zK_of qX6_glance (by decide +kernel) rfl ?_
  iterate 1 (refine zv_step (bX6_glance 30) rfl rfl trivial ?_)
  refine zv_S1 (bX6_glance 30) rfl rfl rfl rfl ⟨rfl, rfl, rfl⟩ ⟨by decide, by decide⟩ ⟨Nat.zero_le _, Nat.zero_le _⟩ (hX6_isStyle _ _) ?_
  rintro _ _ ⟨rfl, ⟨hx, rfl⟩ | ⟨hx, rfl⟩⟩
  · obtain ⟨s, hs, rfl⟩ := in_nat (x := x) (b := 7) (by decide) hx
    iterate 1 (refine zv_step (bX6_glance 30) rfl rfl trivial ?_)
    refine zv_iff (by decide) ?_
    iterate 2 (refine zv_step (bX6_glance 30) rfl rfl trivial ?_)
    refine zv_ifb (fun h8 => ?_) (fun h8 => ?_)
    · iterate 1 (refine zv_step (bX6_glance 30) rfl rfl trivial ?_)
      exact zv_iret (bX6_glance 30) rfl (Or.inl rfl) (Nat.zero_le _) (Nat.zero_le _) ⟨O, P, _, rfl, rfl, ⟨fun _ _ => rfl, fun _ _ _ => rfl⟩, Or.inl ⟨rfl, fun q => by have h9 := er_0.mp h8; have := q.2.1; omega⟩⟩
    · have h8a : ¬ y < 0 := h8
      iterate 3 (refine zv_step (bX6_glance 30) rfl rfl trivial ?_)
      refine zv_ifb (fun h14 => ?_) (fun h14 => ?_)
      · have hy : 0 ≤ y.toInt ∧ y.toInt ≤ 9 := ⟨by have h9 : ¬ y.toInt < 0 := fun q => h8a (er_0.mpr q); omega, by have h9 : y ≤ c8 9 := h14; rwa [Int32.le_iff_toInt_le, show (c8 9).toInt = 9 from rfl] at h9⟩
        obtain ⟨m, hm, rfl⟩ := in_nat (x := y) (b := 9) (by decide) hy
        iterate 2 (refine zv_step (bX6_glance 30) rfl rfl trivial ?_)
        refine zv_V0 (bX6_glance 30) rfl rfl rfl rfl rfl rfl rfl ⟨rfl, rfl, rfl⟩ ⟨by decide, by decide⟩ ⟨Nat.zero_le _, Nat.zero_le _⟩ (wBegun O P Y g hb) ?_
        rintro _ _ ⟨rfl, rfl⟩
        iterate 1 (refine zv_step (bX6_glance 30) rfl rfl trivial ?_)
        refine zv_ifb (fun h26 => ?_) (fun h26 => ?_)
        · have hb1 : O 13 = 1 := hb.resolve_left h26
          obtain ⟨t, ht, hrt⟩ := hr hb1
          obtain ⟨j, hjt, ej⟩ := hrt.2 d (Nat.le_refl _)
          have hj : j < u := by omega
          iterate 6 (refine zv_step (bX6_glance 30) rfl rfl trivial ?_)
          refine zv_V0 (bX6_glance 30) rfl rfl rfl rfl rfl rfl rfl ⟨rfl, rfl, rfl⟩ ⟨by decide, by decide⟩ ⟨Nat.zero_le _, Nat.zero_le _⟩ (wHereX O P Y g hd hO14 ej) ?_
          rintro _ _ ⟨rfl, rfl⟩
          iterate 3 (refine zv_step (bX6_glance 30) rfl rfl trivial ?_)
          refine zv_iale (bX6_glance 30) rfl rfl (show vp_in (nI s) 8 from vp_in_nI (by omega) (by decide)) (show P 75 (nI s).toNatClampNeg = P 75 s by rw [nI_clamp (by omega)]) ?_
          iterate 1 (refine zv_step (bX6_glance 30) rfl rfl trivial ?_)
          refine zv_V4 (bX6_glance 30) rfl rfl rfl rfl rfl rfl rfl ⟨rfl, rfl, rfl⟩ ⟨by show 2 * (m + 1) + 3 + 1 ≤ 30; omega, by show 8 + (5 + 11) + 64 * (2 * (m + 1) + 3) ≤ 64 * (30); omega⟩ ⟨Nat.zero_le _, Nat.zero_le _⟩ (sStyle27 O P Y g hu h1 hp hj (f := m + 1) (by omega) (sub_1 (b := m + 1) (by omega)).symm) ?_
          rintro _ _ ⟨rfl, rfl⟩
          have hln : (tlW (O 1) (P 75 s) (Int32.ofInt 0) P (m + 1) (P 56 d) (hbW (P 75 s) (P 2 (nC (P 56 d))))).length ≤ 6 * szq (P 6) (nI j) := by
            rw [ej, h1]
            exact tlW_len hu hp (m + 1) _ _
          have hsz := szq_le hp hj hu
          have lq : (tlW (O 1) (P 75 s) (Int32.ofInt 0) P (m + 1) (P 56 d) (hbW (P 75 s) (P 2 (nC (P 56 d))))) = (tlW (O 1) (P 75 s) (Int32.ofInt 0) P (m + 1) (nI j) (hbW (P 75 s) (P 2 j))) := by rw [ej, show nC (nI j) = j from nI_clamp (by omega)]
          rw [← lq]
          iterate 2 (refine zv_step (bX6_glance 30) rfl rfl trivial ?_)
          refine zv_V0 (bX6_glance 30) rfl rfl rfl rfl rfl rfl rfl ⟨rfl, rfl, rfl⟩ ⟨by decide, by decide⟩ ⟨Nat.zero_le _, Nat.zero_le _⟩ (sLong27 _ _ _ _) ?_
          rintro _ _ ⟨rfl, ⟨hg, rfl⟩ | ⟨hg, rfl⟩⟩
          · have hg2 : 80 < (tlW (O 1) (P 75 s) (Int32.ofInt 0) P (m + 1) (P 56 d) (hbW (P 75 s) (P 2 (nC (P 56 d))))).length := by
              have h9 : 80 < (nI (tlW (O 1) (P 75 s) (Int32.ofInt 0) P (m + 1) (P 56 d) (hbW (P 75 s) (P 2 (nC (P 56 d))))).length).toInt := hg
              rw [nI_toInt (by omega)] at h9
              omega
            iterate 1 (refine zv_step (bX6_glance 30) rfl rfl trivial ?_)
            refine zv_iff (by decide) ?_
            iterate 2 (refine zv_step (bX6_glance 30) rfl rfl trivial ?_)
            exact zv_iret (bX6_glance 30) rfl (Or.inl rfl) (Nat.zero_le _) (Nat.zero_le _) ⟨_, _, _, rfl, rfl, spT_say _ _ _ _, Or.inr ⟨⟨hx, hy⟩, Or.inr ⟨hb1, s, m, by omega, by omega, rfl, rfl, Or.inl ⟨hg2, rfl⟩⟩⟩⟩
          · have hg2 : (tlW (O 1) (P 75 s) (Int32.ofInt 0) P (m + 1) (P 56 d) (hbW (P 75 s) (P 2 (nC (P 56 d))))).length ≤ 80 := Nat.not_lt.mp (fun q => hg (by show 80 < (nI (tlW (O 1) (P 75 s) (Int32.ofInt 0) P (m + 1) (P 56 d) (hbW (P 75 s) (P 2 (nC (P 56 d))))).length).toInt; rw [nI_toInt (by omega)]; omega))
            iterate 1 (refine zv_step (bX6_glance 30) rfl rfl trivial ?_)
            refine zv_ift (by decide) ?_
            iterate 3 (refine zv_step (bX6_glance 30) rfl rfl trivial ?_)
            exact zv_iret (bX6_glance 30) rfl (Or.inl rfl) (Nat.zero_le _) (Nat.zero_le _) ⟨_, _, _, rfl, rfl, spT_say _ _ _ _, Or.inr ⟨⟨hx, hy⟩, Or.inr ⟨hb1, s, m, by omega, by omega, rfl, rfl, Or.inr ⟨hg2, rfl⟩⟩⟩⟩
        · iterate 1 (refine zv_step (bX6_glance 30) rfl rfl trivial ?_)
          exact zv_iret (bX6_glance 30) rfl (Or.inl rfl) (Nat.zero_le _) (Nat.zero_le _) ⟨O, P, _, rfl, rfl, ⟨fun _ _ => rfl, fun _ _ _ => rfl⟩, Or.inr ⟨⟨hx, hy⟩, Or.inl ⟨fun q => h26 (fun w => absurd (q.symm.trans w) (by decide)), rfl⟩⟩⟩
      · iterate 1 (refine zv_step (bX6_glance 30) rfl rfl trivial ?_)
        exact zv_iret (bX6_glance 30) rfl (Or.inl rfl) (Nat.zero_le _) (Nat.zero_le _) ⟨O, P, _, rfl, rfl, ⟨fun _ _ => rfl, fun _ _ _ => rfl⟩, Or.inl ⟨rfl, fun q => h14 (show y ≤ c8 9 by rw [Int32.le_iff_toInt_le, show (c8 9).toInt = 9 from rfl]; exact q.2.2)⟩⟩
  · skip
    iterate 1 (refine zv_step (bX6_glance 30) rfl rfl trivial ?_)
    refine zv_ift (by decide) ?_
    iterate 1 (refine zv_step (bX6_glance 30) rfl rfl trivial ?_)
    exact zv_iret (bX6_glance 30) rfl (Or.inl rfl) (Nat.zero_le _) (Nat.zero_le _) ⟨O, P, _, rfl, rfl, ⟨fun _ _ => rfl, fun _ _ _ => rfl⟩, Or.inl ⟨rfl, fun q => hx q.1⟩⟩
set_option maxHeartbeats 1000000 in
set_option maxRecDepth 20000 in
theorem mGlancedX (f : Nat → zC) (o : Nat → Int32) (A : Nat → Nat → Int32) (J : Nat → Nat → Int64) {lo hi : Nat} (hh : hi ≤ 450) (hT : tbI lo hi A) {s : Nat} (hs : s < 8) : ∀ (z : Nat) (x b : Int32), pt lo hi A z x → ∀ m : Nat, m ≤ 10 → b = nI m - Int32.ofInt 1 → zK (z + 2) zX7_glanced [.ref 76, .int (nI s), .int x, .int b] (wR f o A J) (fun r w' => w' = (wR f o A J) ∧ r = some (.int (nI (glN A s m x)))) := by
  intro z
  induction z with
  | zero =>
    intro x b hx m hm eb
    obtain rfl := pt_zero hT hx
    subst eb
    refine zK_of qX7_glanced (by decide +kernel) rfl ?_
    iterate 2 (refine zv_step (bX7_glanced (0 + 2)) rfl rfl trivial ?_)
    refine zv_iff (by decide) ?_
    iterate 1 (refine zv_step (bX7_glanced (0 + 2)) rfl rfl trivial ?_)
    exact zv_iret (bX7_glanced (0 + 2)) rfl (Or.inl rfl) (Nat.zero_le _) (Nat.zero_le _) ⟨rfl, by rw [glN_m2]; rfl⟩
  | succ z ih =>
    intro x b hx m hm eb
    rcases hx with rfl | ⟨n, rfl, hlo, hn, hz⟩
    · subst eb
      refine zK_of qX7_glanced (by decide +kernel) rfl ?_
      iterate 2 (refine zv_step (bX7_glanced ((z + 1) + 2)) rfl rfl trivial ?_)
      refine zv_iff (by decide) ?_
      iterate 1 (refine zv_step (bX7_glanced ((z + 1) + 2)) rfl rfl trivial ?_)
      exact zv_iret (bX7_glanced ((z + 1) + 2)) rfl (Or.inl rfl) (Nat.zero_le _) (Nat.zero_le _) ⟨rfl, by rw [glN_m2]; rfl⟩
    · have hN := hT n hlo hn
      have e1 : (nI n).toNatClampNeg = n := nI_clamp (by omega)
      have hv : vp_in (nI n) 450 := vp_in_nI (by omega) (by decide)
      obtain ⟨hp2, hp3⟩ := rN_parts hT hlo hn hz
      obtain ⟨kd, hkd, h0⟩ := rN_kd hN
      subst eb
      refine zK_of qX7_glanced (by decide +kernel) rfl ?_
      iterate 2 (refine zv_step (bX7_glanced ((z + 1) + 2)) rfl rfl trivial ?_)
      refine zv_ift (nI_pos' (by omega)) ?_
      rcases (show m = 0 ∨ ∃ m2, m = m2 + 1 by cases m with | zero => exact Or.inl rfl | succ m => exact Or.inr ⟨m, rfl⟩) with rfl | ⟨m, rfl⟩
      · skip
        iterate 2 (refine zv_step (bX7_glanced ((z + 1) + 2)) rfl rfl trivial ?_)
        refine zv_iff (show ¬ 0 ≤ nI 0 - Int32.ofInt 1 by decide) ?_
        iterate 1 (refine zv_step (bX7_glanced ((z + 1) + 2)) rfl rfl trivial ?_)
        exact zv_iret (bX7_glanced ((z + 1) + 2)) rfl (Or.inl rfl) (Nat.zero_le _) (Nat.zero_le _) ⟨rfl, by rw [glN_0 (by omega)]; rfl⟩
      · skip
        iterate 2 (refine zv_step (bX7_glanced ((z + 1) + 2)) rfl rfl trivial ?_)
        refine zv_ift (show 0 ≤ nI (m + 1) - Int32.ofInt 1 by rw [nI_m1]; exact nI_pos' (by omega)) ?_
        iterate 2 (refine zv_step (bX7_glanced ((z + 1) + 2)) rfl rfl trivial ?_)
        refine zv_V1 (bX7_glanced ((z + 1) + 2)) rfl rfl rfl rfl rfl rfl rfl ⟨rfl, rfl, rfl⟩ ⟨by show 1 + 1 ≤ z + 1 + 2; omega, by show 8 + (2 + 11) + 64 * (1) ≤ 64 * (z + 1 + 2); omega⟩ ⟨Nat.zero_le _, Nat.zero_le _⟩ (mOwn f o A J (by omega)) ?_
        rintro _ _ ⟨rfl, rfl⟩
        iterate 8 (refine zv_step (bX7_glanced ((z + 1) + 2)) rfl rfl trivial ?_)
        refine zv_iale (bX7_glanced ((z + 1) + 2)) rfl rfl hv (show A 0 (nI n).toNatClampNeg = A 0 n by rw [e1]) ?_
        iterate 1 (refine zv_step (bX7_glanced ((z + 1) + 2)) rfl rfl trivial ?_)
        refine zv_zale (bX7_glanced ((z + 1) + 2)) rfl rfl (show vp_in (c8 10 * nI s + A 0 n) 90 by rw [h0, ix10]; exact vp_in_nI (by omega) (by decide)) (show A 7 (c8 10 * nI s + A 0 n).toNatClampNeg = A 7 (10 * s + kd) by rw [h0, ix10, nI_clamp (by omega)]) ?_
        iterate 1 (refine zv_step (bX7_glanced ((z + 1) + 2)) rfl rfl trivial ?_)
        refine zv_ifb (fun h33 => ?_) (fun h33 => ?_)
        · iterate 7 (refine zv_step (bX7_glanced ((z + 1) + 2)) rfl rfl trivial ?_)
          refine zv_iale (bX7_glanced ((z + 1) + 2)) rfl rfl hv (show A 2 (nI n).toNatClampNeg = A 2 n by rw [e1]) ?_
          iterate 3 (refine zv_step (bX7_glanced ((z + 1) + 2)) rfl rfl trivial ?_)
          refine zv_V3 (bX7_glanced ((z + 1) + 2)) rfl rfl rfl rfl rfl rfl rfl ⟨rfl, rfl, rfl⟩ ⟨by show z + 2 + 1 ≤ z + 1 + 2; omega, by show 8 + (4 + 11) + 64 * (z + 2) ≤ 64 * (z + 1 + 2); omega⟩ ⟨Nat.zero_le _, Nat.zero_le _⟩ (ih _ _ hp2 m (by omega) (bl_s m)) ?_
          rintro _ _ ⟨rfl, rfl⟩
          iterate 6 (refine zv_step (bX7_glanced ((z + 1) + 2)) rfl rfl trivial ?_)
          refine zv_iale (bX7_glanced ((z + 1) + 2)) rfl rfl hv (show A 3 (nI n).toNatClampNeg = A 3 n by rw [e1]) ?_
          iterate 3 (refine zv_step (bX7_glanced ((z + 1) + 2)) rfl rfl trivial ?_)
          refine zv_V3 (bX7_glanced ((z + 1) + 2)) rfl rfl rfl rfl rfl rfl rfl ⟨rfl, rfl, rfl⟩ ⟨by show z + 2 + 1 ≤ z + 1 + 2; omega, by show 8 + (4 + 11) + 64 * (z + 2) ≤ 64 * (z + 1 + 2); omega⟩ ⟨Nat.zero_le _, Nat.zero_le _⟩ (ih _ _ hp3 m (by omega) (bl_s m)) ?_
          rintro _ _ ⟨rfl, rfl⟩
          iterate 1 (refine zv_step (bX7_glanced ((z + 1) + 2)) rfl rfl trivial ?_)
          exact zv_iret (bX7_glanced ((z + 1) + 2)) rfl (Or.inl rfl) (Nat.zero_le _) (Nat.zero_le _) ⟨rfl, by rw [glN_nI (by omega) hkd h0, if_pos h33]; exact congrArg (fun v => some (Value.int v)) (nI4 _ _ _ _)⟩
        · iterate 8 (refine zv_step (bX7_glanced ((z + 1) + 2)) rfl rfl trivial ?_)
          refine zv_iale (bX7_glanced ((z + 1) + 2)) rfl rfl hv (show A 2 (nI n).toNatClampNeg = A 2 n by rw [e1]) ?_
          iterate 3 (refine zv_step (bX7_glanced ((z + 1) + 2)) rfl rfl trivial ?_)
          refine zv_V3 (bX7_glanced ((z + 1) + 2)) rfl rfl rfl rfl rfl rfl rfl ⟨rfl, rfl, rfl⟩ ⟨by show z + 2 + 1 ≤ z + 1 + 2; omega, by show 8 + (4 + 11) + 64 * (z + 2) ≤ 64 * (z + 1 + 2); omega⟩ ⟨Nat.zero_le _, Nat.zero_le _⟩ (ih _ _ hp2 m (by omega) (bl_s m)) ?_
          rintro _ _ ⟨rfl, rfl⟩
          iterate 6 (refine zv_step (bX7_glanced ((z + 1) + 2)) rfl rfl trivial ?_)
          refine zv_iale (bX7_glanced ((z + 1) + 2)) rfl rfl hv (show A 3 (nI n).toNatClampNeg = A 3 n by rw [e1]) ?_
          iterate 3 (refine zv_step (bX7_glanced ((z + 1) + 2)) rfl rfl trivial ?_)
          refine zv_V3 (bX7_glanced ((z + 1) + 2)) rfl rfl rfl rfl rfl rfl rfl ⟨rfl, rfl, rfl⟩ ⟨by show z + 2 + 1 ≤ z + 1 + 2; omega, by show 8 + (4 + 11) + 64 * (z + 2) ≤ 64 * (z + 1 + 2); omega⟩ ⟨Nat.zero_le _, Nat.zero_le _⟩ (ih _ _ hp3 m (by omega) (bl_s m)) ?_
          rintro _ _ ⟨rfl, rfl⟩
          iterate 1 (refine zv_step (bX7_glanced ((z + 1) + 2)) rfl rfl trivial ?_)
          exact zv_iret (bX7_glanced ((z + 1) + 2)) rfl (Or.inl rfl) (Nat.zero_le _) (Nat.zero_le _) ⟨rfl, by rw [glN_nI (by omega) hkd h0, if_neg h33]; exact congrArg (fun v => some (Value.int v)) (nI4 _ _ _ _)⟩
set_option maxHeartbeats 1000000 in
set_option maxRecDepth 20000 in
theorem mGlanceX (f : Nat → zC) (o : Nat → Int32) (A : Nat → Nat → Int32) (J : Nat → Nat → Int64) {u : Nat} (hu : u ≤ 120) (hT : tbI 0 u A) {d : Nat} (hd : d ≤ 39) (ho33 : o 33 = nI d) (hb : o 30 = 0 ∨ o 30 = 1) (hr : o 30 = 1 → ∃ t, t < u ∧ rtM A t d (A 20)) (x y : Int32) : zK 43 zX7_glance [.ref 76, .int x, .int y] (wR f o A J) (fun r w' => w' = (wR f o A J) ∧ ∃ R : Int32, r = some (.int R) ∧ gaR (o 30 = 1) (fun s m => glN A s (m + 1) (A 20 d)) x y R) := by
  refine zK_of qX7_glance (by decide +kernel) rfl ?_
  iterate 1 (refine zv_step (bX7_glance 43) rfl rfl trivial ?_)
  refine zv_S1 (bX7_glance 43) rfl rfl rfl rfl ⟨rfl, rfl, rfl⟩ ⟨by decide, by decide⟩ ⟨Nat.zero_le _, Nat.zero_le _⟩ (hX7_isStyle _ _) ?_
  rintro _ _ ⟨rfl, ⟨g1, rfl⟩ | ⟨g1, rfl⟩⟩
  · obtain ⟨s, hs, rfl⟩ := in_nat (x := x) (b := 7) (by decide) g1
    iterate 1 (refine zv_step (bX7_glance 43) rfl rfl trivial ?_)
    refine zv_iff (by decide) ?_
    iterate 4 (refine zv_step (bX7_glance 43) rfl rfl trivial ?_)
    refine zv_S3 (bX7_glance 43) rfl rfl rfl rfl ⟨rfl, rfl, rfl⟩ ⟨by decide, by decide⟩ ⟨Nat.zero_le _, Nat.zero_le _⟩ (mIn _ _ _ _ (a := 0) (b := 9) (by decide) (by decide)) ?_
    rintro _ _ ⟨rfl, ⟨g2, rfl⟩ | ⟨g2, rfl⟩⟩
    · try rw [Int32.toInt_toInt64] at g2
      obtain ⟨m, hm, rfl⟩ := in_nat (x := y) (b := 9) (by decide) g2
      iterate 1 (refine zv_step (bX7_glance 43) rfl rfl trivial ?_)
      refine zv_ift (by decide) ?_
      iterate 3 (refine zv_step (bX7_glance 43) rfl rfl trivial ?_)
      refine zv_ifb (fun h25 => ?_) (fun h25 => ?_)
      · have hb1 : o 30 = 1 := hb.resolve_left h25
        obtain ⟨t, ht, hr0⟩ := hr hb1
        obtain ⟨j, hj, ej, hz⟩ := hr0.2 d (Nat.le_refl _)
        have hgl := glN_le (by omega) hT s (m + 1) j (Nat.zero_le _) (by omega)
        have hz9 := (rN_sz (hT j (Nat.zero_le _) (by omega))).2.1
        iterate 6 (refine zv_step (bX7_glance 43) rfl rfl trivial ?_)
        refine zv_iale (bX7_glance 43) rfl rfl (show vp_in (o 33) 41 by rw [ho33]; exact vp_in_nI (by omega) (by decide)) (show A 20 (o 33).toNatClampNeg = nI j by rw [ho33, nI_clamp (by omega)]; exact ej) ?_
        iterate 1 (refine zv_step (bX7_glance 43) rfl rfl trivial ?_)
        refine zv_V3 (bX7_glance 43) rfl rfl rfl rfl rfl rfl rfl ⟨rfl, rfl, rfl⟩ ⟨by decide, by decide⟩ ⟨Nat.zero_le _, Nat.zero_le _⟩ (mGlancedX f o A J (by omega) hT (s := s) (by omega) 40 _ _ (pt_of hT (Nat.zero_le _) (show j < u by omega)) (m + 1) (by omega) (nI_m1 m).symm) ?_
        rintro _ _ ⟨rfl, rfl⟩
        iterate 4 (refine zv_step (bX7_glance 43) rfl rfl trivial ?_)
        refine zv_ifb (fun h50 => ?_) (fun h50 => ?_)
        · have q50 : glN A s (m + 1) (nI j) ≤ 80 := by
            have h9 : nI (glN A s (m + 1) (nI j)) ≤ nI 80 := h50
            rwa [nI_leI (by omega) (by decide)] at h9
          iterate 1 (refine zv_step (bX7_glance 43) rfl rfl trivial ?_)
          exact zv_iret (bX7_glance 43) rfl (Or.inl rfl) (Nat.zero_le _) (Nat.zero_le _) ⟨rfl, _, rfl, Or.inr ⟨⟨g1, g2⟩, Or.inr ⟨hb1, s, m, by omega, by omega, rfl, rfl, Or.inr ⟨by rw [ej]; exact q50, by rw [ej]⟩⟩⟩⟩
        · have q50 : ¬ glN A s (m + 1) (nI j) ≤ 80 := fun q => h50 (show nI (glN A s (m + 1) (nI j)) ≤ nI 80 by rw [nI_leI (by omega) (by decide)]; exact q)
          iterate 2 (refine zv_step (bX7_glance 43) rfl rfl trivial ?_)
          exact zv_iret (bX7_glance 43) rfl (Or.inl rfl) (Nat.zero_le _) (Nat.zero_le _) ⟨rfl, _, rfl, Or.inr ⟨⟨g1, g2⟩, Or.inr ⟨hb1, s, m, by omega, by omega, rfl, rfl, Or.inl ⟨by rw [ej]; exact Nat.lt_of_not_le q50, rfl⟩⟩⟩⟩
      · iterate 1 (refine zv_step (bX7_glance 43) rfl rfl trivial ?_)
        exact zv_iret (bX7_glance 43) rfl (Or.inl rfl) (Nat.zero_le _) (Nat.zero_le _) ⟨rfl, _, rfl, Or.inr ⟨⟨g1, g2⟩, Or.inl ⟨fun q => h25 (fun w => absurd (q.symm.trans w) (by decide)), rfl⟩⟩⟩
    · try rw [Int32.toInt_toInt64] at g2
      iterate 1 (refine zv_step (bX7_glance 43) rfl rfl trivial ?_)
      refine zv_iff (by decide) ?_
      iterate 1 (refine zv_step (bX7_glance 43) rfl rfl trivial ?_)
      exact zv_iret (bX7_glance 43) rfl (Or.inl rfl) (Nat.zero_le _) (Nat.zero_le _) ⟨rfl, _, rfl, Or.inl ⟨rfl, fun q => g2 q.2⟩⟩
  · skip
    iterate 1 (refine zv_step (bX7_glance 43) rfl rfl trivial ?_)
    refine zv_ift (by decide) ?_
    iterate 1 (refine zv_step (bX7_glance 43) rfl rfl trivial ?_)
    exact zv_iret (bX7_glance 43) rfl (Or.inl rfl) (Nat.zero_le _) (Nat.zero_le _) ⟨rfl, _, rfl, Or.inl ⟨rfl, fun q => g1 q.1⟩⟩
