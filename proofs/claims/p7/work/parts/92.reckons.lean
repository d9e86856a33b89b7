/-- READINGS of a span by way c: KIND c / 2, between begin and end if c is odd -/
def mW (A : Nat → Nat → Int32) (s : Nat) (L : Nat → Nat → Nat) (i j c : Nat) : Nat := if ltW A s (c / 2) (c % 2) = true ∧ (c % 2 = 0 ∨ (eW A i = 29 ∧ eW A (j - 1) = 30)) then wi (eW A) (A 6) L (c / 2) (i + c % 2) (j - c % 2) else 0
def csW (g : Nat → Nat) : Nat → Nat
  | 0 => 0
  | c + 1 => plW (csW g c) (g c)
theorem csW_le (g : Nat → Nat) : ∀ c, csW g c ≤ cap
  | 0 => Nat.zero_le _
  | c + 1 => (plW_le _ _).1
theorem mW_e {A : Nat → Nat → Int32} {s : Nat} {L : Nat → Nat → Nat} {i j c : Nat} (h : c % 2 = 0) (g : ltW A s (c / 2) 0 = true) : mW A s L i j c = wi (eW A) (A 6) L (c / 2) i j := by
  unfold mW
  rw [h, if_pos ⟨g, Or.inl rfl⟩]
  rfl
theorem mW_o {A : Nat → Nat → Int32} {s : Nat} {L : Nat → Nat → Nat} {i j c : Nat} (h : c % 2 = 1) (g : ltW A s (c / 2) 1 = true) (e1 : eW A i = 29) (e2 : eW A (j - 1) = 30) : mW A s L i j c = wi (eW A) (A 6) L (c / 2) (i + 1) (j - 1) := by
  unfold mW
  rw [h, if_pos ⟨g, Or.inr ⟨e1, e2⟩⟩]
theorem mW_f {A : Nat → Nat → Int32} {s : Nat} {L : Nat → Nat → Nat} {i j c b : Nat} (h : c % 2 = b) (g : ltW A s (c / 2) b = false) : mW A s L i j c = 0 := by
  unfold mW
  rw [h, if_neg (fun q => by rw [g] at q; exact absurd q.1 (by decide))]
theorem mW_x {A : Nat → Nat → Int32} {s : Nat} {L : Nat → Nat → Nat} {i j c : Nat} (h : c % 2 = 1) (e : ¬ (eW A i = 29 ∧ eW A (j - 1) = 30)) : mW A s L i j c = 0 := by
  unfold mW
  rw [h, if_neg (fun q => q.2.elim (by decide) e)]
theorem wiP_cg {E : Nat → Nat} {L L' : Nat → Nat → Nat} {k i j : Nat} (e : ∀ a b, i ≤ a → a < b → b ≤ j → b - a < j - i → L a b = L' a b) : ∀ (c m n : Nat), m + c + 1 ≤ j → i < m → wiP E L k i j c m n = wiP E L' k i j c m n
  | 0, _, _, _, _ => rfl
  | c + 1, m, n, h1, h2 => by
    show wiP E L k i j c (m + 1) _ = wiP E L' k i j c (m + 1) _
    rw [e i m (by omega) (by omega) (by omega) (by omega), e (m + 1) j (by omega) (by omega) (by omega) (by omega)]
    exact wiP_cg e c (m + 1) _ (by omega) (by omega)
theorem wi_cg {E : Nat → Nat} {G : Nat → Int32} {L L' : Nat → Nat → Nat} {k i j : Nat} (e : ∀ a b, i ≤ a → a < b → b ≤ j → b - a < j - i → L a b = L' a b) : wi E G L k i j = wi E G L' k i j := by
  unfold wi
  split
  · rfl
  · split
    · rfl
    · split
      · rfl
      · split
        · rename_i h _ _ _
          by_cases q : j = i + 1
          · rw [show j - 1 - (i + 1) = 0 by omega]
            rfl
          · exact wiP_cg e _ _ _ (by omega) (by omega)
        · split
          · split
            · rename_i q
              exact e _ _ (by omega) (by omega) (by omega) (by omega)
            · rfl
          · split
            · split
              · rename_i q
                exact e _ _ (by omega) (by omega) (by omega) (by omega)
              · rfl
            · split
              · rename_i q
                exact e _ _ (by omega) (by omega) (by omega) (by omega)
              · rfl
theorem mW_cg {A : Nat → Nat → Int32} {s : Nat} {L L' : Nat → Nat → Nat} {i j c : Nat} (e : ∀ a b, i ≤ a → a < b → b ≤ j → b - a < j - i → L a b = L' a b) : mW A s L i j c = mW A s L' i j c := by
  unfold mW
  rw [wi_cg (L := L) (L' := L') (fun a b h1 h2 h3 h4 => e a b (by omega) h2 (by omega) (by omega))]
theorem csW_cg {g g' : Nat → Nat} : ∀ c, (∀ d, d < c → g d = g' d) → csW g c = csW g' c
  | 0, _ => rfl
  | c + 1, h => by
    show plW (csW g c) (g c) = plW (csW g' c) (g' c)
    rw [csW_cg c (fun d hd => h d (by omega)), h c (by omega)]
/-- the table of sums as it stands -/
def lW (J : Nat → Nat → Int64) (a b : Nat) : Nat := (J 1 (21 * a + b)).toInt.toNat
/-- a span's numbers stand in the tables -/
def okS (A : Nat → Nat → Int32) (s : Nat) (J : Nat → Nat → Int64) (i j : Nat) : Prop := (∀ c, c < 20 → J 0 (20 * (21 * i + j) + c) = lN (mW A s (lW J) i j c)) ∧ J 1 (21 * i + j) = lN (csW (mW A s (lW J) i j) 20)
theorem okS_l {A : Nat → Nat → Int32} {s : Nat} {J : Nat → Nat → Int64} {i j : Nat} (h : okS A s J i j) : lW J i j = csW (mW A s (lW J) i j) 20 ∧ lW J i j ≤ cap ∧ J 1 (21 * i + j) = lN (lW J i j) := by
  have hc := csW_le (mW A s (lW J) i j) 20
  have e : lW J i j = csW (mW A s (lW J) i j) 20 := by
    show (J 1 (21 * i + j)).toInt.toNat = _
    rw [h.2]
    exact lN_cl (by unfold cap at hc; omega)
  refine ⟨e, by rw [e]; exact hc, ?_⟩
  rw [h.2, ← e]
def okJ (h : Nat) (A : Nat → Nat → Int32) (s : Nat) (J : Nat → Nat → Int64) : Prop := ∀ i j, i < j → j ≤ h → okS A s J i j
/-- .. for all spans shorter than n, and those of n words that begin ahead of i -/
def okN (h : Nat) (A : Nat → Nat → Int32) (s : Nat) (J : Nat → Nat → Int64) (n i : Nat) : Prop := ∀ a b, a < b → b ≤ h → (b - a < n ∨ (b - a = n ∧ a < i)) → okS A s J a b
theorem okN_L {h : Nat} {A : Nat → Nat → Int32} {s : Nat} {J : Nat → Nat → Int64} {n i0 : Nat} (hN : okN h A s J n i0) {i j : Nat} (hj : j ≤ h) (hl : j - i ≤ n) : okL J (lW J) i j := fun a b _ h2 h3 h4 => by
  have q := okS_l (hN a b h2 (by omega) (Or.inl (by omega)))
  exact ⟨q.2.2, q.2.1⟩
theorem okS_fr {A : Nat → Nat → Int32} {s : Nat} {J J' : Nat → Nat → Int64} {i j : Nat} (hij : i < j) (h : okS A s J i j) (e1 : ∀ a b, i ≤ a → a < b → b ≤ j → J' 1 (21 * a + b) = J 1 (21 * a + b)) (e0 : ∀ c, c < 20 → J' 0 (20 * (21 * i + j) + c) = J 0 (20 * (21 * i + j) + c)) : okS A s J' i j := by
  have eL : ∀ a b, i ≤ a → a < b → b ≤ j → b - a < j - i → lW J a b = lW J' a b := fun a b h1 h2 h3 _ => by
    unfold lW
    rw [e1 a b h1 h2 h3]
  refine ⟨fun c hc => ?_, ?_⟩
  · rw [e0 c hc, h.1 c hc, mW_cg eL]
  · rw [e1 i j (Nat.le_refl _) hij (Nat.le_refl _), h.2, csW_cg 20 (fun d _ => mW_cg eL)]
theorem ix20m {x c : Nat} : c8 20 * nI x + nI c = nI (20 * x + c) := ix20
theorem half {d : Nat} (h : d < 21) : nI d / Int32.ofInt 2 = nI (d / 2) := nI_div (b := 2) (by omega) (by decide) (by decide)
theorem rem2 {d : Nat} (h : d < 21) : nI d - nI d / Int32.ofInt 2 * Int32.ofInt 2 = nI (d % 2) := by
  rw [half h, show Int32.ofInt 2 = nI 2 from rfl, nI_mul, nI_sub (Nat.div_mul_le_self d 2)]
  congr 1
  have := Nat.div_add_mod d 2
  omega
theorem mIsLetE (f : Nat → zC) (o : Nat → Int32) (A : Nat → Nat → Int32) (J : Nat → Nat → Int64) {s k b : Nat} (hs : s ≤ 8) (ho : o 28 = nI s) (hk : k < 10) (hb : b ≤ 1) {x y : Int32} (ex : x = nI k) (ey : y = nI b) : zK 1 zX7_isLet [.ref 76, .int x, .int y] (wR f o A J) (fun r w' => w' = (wR f o A J) ∧ ((ltW A s k b = true ∧ r = some (.int 1)) ∨ (ltW A s k b = false ∧ r = some (.int 0)))) := by
  subst ex ey
  exact mIsLet f o A J hs ho hk hb
set_option maxHeartbeats 1000000 in
set_option maxRecDepth 20000 in
theorem rkC (f : Nat → zC) (o : Nat → Int32) (A : Nat → Nat → Int32) (J : Nat → Nat → Int64) {h : Nat} (hh : h ≤ 20) (hw : nnW h (A 8)) {s : Nat} (hs : s ≤ 8) (ho : o 28 = nI s) {i j n : Nat} (hij : i + n = j) (hn : 1 ≤ n) (hj : j ≤ h) (hN : okN h A s J n i) {n0 : Nat} {Q : Option Value → zW → Prop} (kk : ∀ g, (∀ x, ¬ (20 * (21 * i + j) ≤ x ∧ x < 20 * (21 * i + j) + 20) → g x = J 0 x) → (∀ x, x < 20 → g (20 * (21 * i + j) + x) = lN (mW A s (lW J) i j x)) → zV (zMo 3 zX7_reckons) false n0 0 0 190 [(5, .long (lN (csW (mW A s (lW J) i j) 20))), (4, .int (nI j)), (3, .int (nI i)), (2, .int (nI n)), (0, .ref 76), (1, .int (nI s))] [] (wR f o A (updJ J 0 g)) Q) : ∀ (c d : Nat) (g : Nat → Int64), d + c = 20 → (∀ x, ¬ (20 * (21 * i + j) ≤ x ∧ x < 20 * (21 * i + j) + 20) → g x = J 0 x) → (∀ x, x < d → g (20 * (21 * i + j) + x) = lN (mW A s (lW J) i j x)) → ∀ {x7 : Int32}, x7 = nI d → zV (zMo 3 zX7_reckons) false n0 0 0 38 [(7, .int x7), (5, .long (lN (csW (mW A s (lW J) i j) d))), (4, .int (nI j)), (3, .int (nI i)), (2, .int (nI n)), (0, .ref 76), (1, .int (nI s))] [] (wR f o A (updJ J 0 g)) Q := by
  intro c
  induction c with
  | zero =>
    intro d g hd hg1 hg2 x7 e7
    subst e7
    iterate 3 (refine zv_step (bX7_reckons 3) rfl rfl trivial ?_)
    refine zv_ift (show nI 20 ≤ nI d from nI_le (by omega) (by omega)) ?_
    obtain rfl : d = 20 := by omega
    refine zv_locals (l := [(7, .int (nI 20)), (5, .long (lN (csW (mW A s (lW J) i j) 20))), (4, .int (nI j)), (3, .int (nI i)), (2, .int (nI n)), (0, .ref 76), (1, .int (nI s))]) (l' := [(5, .long (lN (csW (mW A s (lW J) i j) 20))), (4, .int (nI j)), (3, .int (nI i)), (2, .int (nI n)), (0, .ref 76), (1, .int (nI s))]) ?_ (kk g hg1 hg2)
    simp
  | succ c ih =>
    intro d g hd hg1 hg2 x7 e7
    subst e7
    iterate 3 (refine zv_step (bX7_reckons 3) rfl rfl trivial ?_)
    refine zv_iff (show ¬ nI 20 ≤ nI d from fun h => absurd ((nI_leI (by omega) (by omega)).mp h) (by omega)) ?_
    iterate 2 (refine zv_step (bX7_reckons 3) rfl rfl trivial ?_)
    refine zv_step (bX7_reckons 3) rfl rfl (show ¬ Int32.ofInt 2 = 0 by decide) ?_
    iterate 2 (refine zv_step (bX7_reckons 3) rfl rfl trivial ?_)
    refine zv_ifb (fun h50 => ?_) (fun h50 => ?_)
    · have q50 : d % 2 = 0 := by
        have h9 : ¬ nI d - nI d / Int32.ofInt 2 * Int32.ofInt 2 = nI 1 := h50
        rw [rem2 (by omega), nI_eq (by omega) (by decide)] at h9
        omega
      iterate 5 (refine zv_step (bX7_reckons 3) rfl rfl trivial ?_)
      refine zv_step (bX7_reckons 3) rfl rfl (show ¬ Int32.ofInt 2 = 0 by decide) ?_
      iterate 1 (refine zv_step (bX7_reckons 3) rfl rfl trivial ?_)
      refine zv_V2 (bX7_reckons 3) rfl rfl rfl rfl rfl rfl rfl ⟨rfl, rfl, rfl⟩ ⟨by decide, by decide⟩ ⟨Nat.zero_le _, Nat.zero_le _⟩ (mIsLetE f o A _ hs ho (k := d / 2) (b := 0) (by omega) (by decide) (half (by omega)) rfl) ?_
      rintro _ _ ⟨rfl, ⟨g1, rfl⟩ | ⟨g1, rfl⟩⟩
      · skip
        iterate 1 (refine zv_step (bX7_reckons 3) rfl rfl trivial ?_)
        refine zv_iff (by decide) ?_
        iterate 2 (refine zv_step (bX7_reckons 3) rfl rfl trivial ?_)
        refine zv_ift (by decide) ?_
        iterate 5 (refine zv_step (bX7_reckons 3) rfl rfl trivial ?_)
        refine zv_ift (by decide) ?_
        iterate 2 (refine zv_step (bX7_reckons 3) rfl rfl trivial ?_)
        refine zv_ift (by decide) ?_
        iterate 3 (refine zv_step (bX7_reckons 3) rfl rfl trivial ?_)
        refine zv_step (bX7_reckons 3) rfl rfl (show ¬ Int32.ofInt 2 = 0 by decide) ?_
        iterate 2 (refine zv_step (bX7_reckons 3) rfl rfl trivial ?_)
        refine zv_V3 (bX7_reckons 3) rfl rfl rfl rfl rfl rfl rfl ⟨rfl, rfl, rfl⟩ ⟨by decide, by decide⟩ ⟨Nat.zero_le _, Nat.zero_le _⟩ (mWithin f o A (updJ J 0 g) hh hw (i := i) (j := j) (by omega) (by omega) (L := lW J) (okN_L hN (i := i) (j := j) (by omega) (by omega)) (k := d / 2) (by omega) (half (by omega)) rfl rfl) ?_
        rintro _ _ ⟨rfl, rfl⟩
        iterate 13 (refine zv_step (bX7_reckons 3) rfl rfl trivial ?_)
        refine zv_step (bX7_reckons 3) rfl rfl (show vp_in (c8 20 * (c8 21 * nI i + nI j) + nI d) 8820 by rw [show c8 20 * (c8 21 * nI i + nI j) + nI d = nI (20 * (21 * i + j) + d) by rw [ix21, ix20m]]; exact vp_in_nI (by omega) (by decide)) ?_
        iterate 2 (refine zv_step (bX7_reckons 3) rfl rfl trivial ?_)
        refine zv_S2 (bX7_reckons 3) rfl rfl rfl rfl ⟨rfl, rfl, rfl⟩ ⟨by decide, by decide⟩ ⟨Nat.zero_le _, Nat.zero_le _⟩ (mPlus _ (csW_le _ _) (a := csW (mW A s (lW J) i j) d) (b := wi (eW A) (A 6) (lW J) (d / 2) i j) (wi_le (okN_L hN (i := i) (j := j) (by omega) (by omega)))) ?_
        rintro _ _ ⟨rfl, rfl⟩
        iterate 3 (refine zv_step (bX7_reckons 3) rfl rfl trivial ?_)
        have e9 : mW A s (lW J) i j d = wi (eW A) (A 6) (lW J) (d / 2) i j := mW_e q50 g1
        refine zv_world (show _ = wR f o A (updJ J 0 (vp_updL g (20 * (21 * i + j) + d) (lN (mW A s (lW J) i j d)))) from by rw [e9, show 20 * (21 * i + j) + d = (c8 20 * (c8 21 * nI i + nI j) + nI d).toNatClampNeg by rw [show c8 20 * (c8 21 * nI i + nI j) + nI d = nI (20 * (21 * i + j) + d) by rw [ix21, ix20m], nI_clamp (by omega)]]; rfl) ?_
        have e10 : csW (mW A s (lW J) i j) (d + 1) = plW (csW (mW A s (lW J) i j) d) (wi (eW A) (A 6) (lW J) (d / 2) i j) := by
          show plW _ _ = _
          rw [e9]
        have h9 := ih (d + 1) (vp_updL g (20 * (21 * i + j) + d) (lN (mW A s (lW J) i j d))) (by omega) (fun x hx => by
          unfold vp_updL
          rw [if_neg (by omega)]
          exact hg1 x hx) (fun x hx => by
          unfold vp_updL
          split
          · rename_i e
            rw [show x = d by omega]
          · exact hg2 x (by omega)) (x7 := nI d + Int32.ofInt 1) (nI_1 d)
        rw [e10] at h9
        refine zv_locals (l := [(7, .int (nI d + Int32.ofInt 1)), (5, .long (lN (plW (csW (mW A s (lW J) i j) d) (wi (eW A) (A 6) (lW J) (d / 2) i j)))), (10, .long (lN (wi (eW A) (A 6) (lW J) (d / 2) i j))), (9, .int (Int32.ofInt 1)), (8, .int (Int32.ofInt 0)), (4, .int (nI j)), (3, .int (nI i)), (2, .int (nI n)), (0, .ref 76), (1, .int (nI s))]) (l' := [(7, .int (nI d + Int32.ofInt 1)), (5, .long (lN (plW (csW (mW A s (lW J) i j) d) (wi (eW A) (A 6) (lW J) (d / 2) i j)))), (4, .int (nI j)), (3, .int (nI i)), (2, .int (nI n)), (0, .ref 76), (1, .int (nI s))]) ?_ h9
        simp
      · skip
        iterate 1 (refine zv_step (bX7_reckons 3) rfl rfl trivial ?_)
        refine zv_ift (by decide) ?_
        iterate 4 (refine zv_step (bX7_reckons 3) rfl rfl trivial ?_)
        refine zv_iff (by decide) ?_
        iterate 15 (refine zv_step (bX7_reckons 3) rfl rfl trivial ?_)
        refine zv_step (bX7_reckons 3) rfl rfl (show vp_in (c8 20 * (c8 21 * nI i + nI j) + nI d) 8820 by rw [show c8 20 * (c8 21 * nI i + nI j) + nI d = nI (20 * (21 * i + j) + d) by rw [ix21, ix20m]]; exact vp_in_nI (by omega) (by decide)) ?_
        iterate 2 (refine zv_step (bX7_reckons 3) rfl rfl trivial ?_)
        refine zv_S2 (bX7_reckons 3) rfl rfl rfl rfl ⟨rfl, rfl, rfl⟩ ⟨by decide, by decide⟩ ⟨Nat.zero_le _, Nat.zero_le _⟩ (mPlus _ (csW_le _ _) (a := csW (mW A s (lW J) i j) d) (b := 0) (Nat.zero_le _)) ?_
        rintro _ _ ⟨rfl, rfl⟩
        iterate 3 (refine zv_step (bX7_reckons 3) rfl rfl trivial ?_)
        have e9 : mW A s (lW J) i j d = 0 := mW_f (b := 0) q50 g1
        refine zv_world (show _ = wR f o A (updJ J 0 (vp_updL g (20 * (21 * i + j) + d) (lN (mW A s (lW J) i j d)))) from by rw [e9, show 20 * (21 * i + j) + d = (c8 20 * (c8 21 * nI i + nI j) + nI d).toNatClampNeg by rw [show c8 20 * (c8 21 * nI i + nI j) + nI d = nI (20 * (21 * i + j) + d) by rw [ix21, ix20m], nI_clamp (by omega)]]; rfl) ?_
        have e10 : csW (mW A s (lW J) i j) (d + 1) = plW (csW (mW A s (lW J) i j) d) (0) := by
          show plW _ _ = _
          rw [e9]
        have h9 := ih (d + 1) (vp_updL g (20 * (21 * i + j) + d) (lN (mW A s (lW J) i j d))) (by omega) (fun x hx => by
          unfold vp_updL
          rw [if_neg (by omega)]
          exact hg1 x hx) (fun x hx => by
          unfold vp_updL
          split
          · rename_i e
            rw [show x = d by omega]
          · exact hg2 x (by omega)) (x7 := nI d + Int32.ofInt 1) (nI_1 d)
        rw [e10] at h9
        refine zv_locals (l := [(7, .int (nI d + Int32.ofInt 1)), (5, .long (lN (plW (csW (mW A s (lW J) i j) d) (0)))), (10, .long (lN (0))), (9, .int (Int32.ofInt 0)), (8, .int (Int32.ofInt 0)), (4, .int (nI j)), (3, .int (nI i)), (2, .int (nI n)), (0, .ref 76), (1, .int (nI s))]) (l' := [(7, .int (nI d + Int32.ofInt 1)), (5, .long (lN (plW (csW (mW A s (lW J) i j) d) (0)))), (4, .int (nI j)), (3, .int (nI i)), (2, .int (nI n)), (0, .ref 76), (1, .int (nI s))]) ?_ h9
        simp
    · have q50 : d % 2 = 1 := by
        have h9 : nI d - nI d / Int32.ofInt 2 * Int32.ofInt 2 = nI 1 := Decidable.not_not.mp h50
        rwa [rem2 (by omega), nI_eq (by omega) (by decide)] at h9
      iterate 6 (refine zv_step (bX7_reckons 3) rfl rfl trivial ?_)
      refine zv_step (bX7_reckons 3) rfl rfl (show ¬ Int32.ofInt 2 = 0 by decide) ?_
      iterate 1 (refine zv_step (bX7_reckons 3) rfl rfl trivial ?_)
      refine zv_V2 (bX7_reckons 3) rfl rfl rfl rfl rfl rfl rfl ⟨rfl, rfl, rfl⟩ ⟨by decide, by decide⟩ ⟨Nat.zero_le _, Nat.zero_le _⟩ (mIsLetE f o A _ hs ho (k := d / 2) (b := 1) (by omega) (by decide) (half (by omega)) rfl) ?_
      rintro _ _ ⟨rfl, ⟨g1, rfl⟩ | ⟨g1, rfl⟩⟩
      · skip
        iterate 1 (refine zv_step (bX7_reckons 3) rfl rfl trivial ?_)
        refine zv_iff (by decide) ?_
        iterate 2 (refine zv_step (bX7_reckons 3) rfl rfl trivial ?_)
        refine zv_iff (by decide) ?_
        iterate 3 (refine zv_step (bX7_reckons 3) rfl rfl trivial ?_)
        refine zv_iale (bX7_reckons 3) rfl rfl (vp_in_nI (by omega) (by decide)) (show A 8 (nI i).toNatClampNeg = nI (eW A (i)) by rw [nI_clamp (by omega)]; exact (eW_of hw (by omega)).1) ?_
        iterate 2 (refine zv_step (bX7_reckons 3) rfl rfl trivial ?_)
        refine zv_ifb (fun h86 => ?_) (fun h86 => ?_)
        · have q86 : ¬ eW A (i) = 29 := fun e => h86 (by rw [e]; rfl)
          iterate 4 (refine zv_step (bX7_reckons 3) rfl rfl trivial ?_)
          refine zv_iff (by decide) ?_
          iterate 15 (refine zv_step (bX7_reckons 3) rfl rfl trivial ?_)
          refine zv_step (bX7_reckons 3) rfl rfl (show vp_in (c8 20 * (c8 21 * nI i + nI j) + nI d) 8820 by rw [show c8 20 * (c8 21 * nI i + nI j) + nI d = nI (20 * (21 * i + j) + d) by rw [ix21, ix20m]]; exact vp_in_nI (by omega) (by decide)) ?_
          iterate 2 (refine zv_step (bX7_reckons 3) rfl rfl trivial ?_)
          refine zv_S2 (bX7_reckons 3) rfl rfl rfl rfl ⟨rfl, rfl, rfl⟩ ⟨by decide, by decide⟩ ⟨Nat.zero_le _, Nat.zero_le _⟩ (mPlus _ (csW_le _ _) (a := csW (mW A s (lW J) i j) d) (b := 0) (Nat.zero_le _)) ?_
          rintro _ _ ⟨rfl, rfl⟩
          iterate 3 (refine zv_step (bX7_reckons 3) rfl rfl trivial ?_)
          have e9 : mW A s (lW J) i j d = 0 := mW_x q50 (fun e => q86 e.1)
          refine zv_world (show _ = wR f o A (updJ J 0 (vp_updL g (20 * (21 * i + j) + d) (lN (mW A s (lW J) i j d)))) from by rw [e9, show 20 * (21 * i + j) + d = (c8 20 * (c8 21 * nI i + nI j) + nI d).toNatClampNeg by rw [show c8 20 * (c8 21 * nI i + nI j) + nI d = nI (20 * (21 * i + j) + d) by rw [ix21, ix20m], nI_clamp (by omega)]]; rfl) ?_
          have e10 : csW (mW A s (lW J) i j) (d + 1) = plW (csW (mW A s (lW J) i j) d) (0) := by
            show plW _ _ = _
            rw [e9]
          have h9 := ih (d + 1) (vp_updL g (20 * (21 * i + j) + d) (lN (mW A s (lW J) i j d))) (by omega) (fun x hx => by
            unfold vp_updL
            rw [if_neg (by omega)]
            exact hg1 x hx) (fun x hx => by
            unfold vp_updL
            split
            · rename_i e
              rw [show x = d by omega]
            · exact hg2 x (by omega)) (x7 := nI d + Int32.ofInt 1) (nI_1 d)
          rw [e10] at h9
          refine zv_locals (l := [(7, .int (nI d + Int32.ofInt 1)), (5, .long (lN (plW (csW (mW A s (lW J) i j) d) (0)))), (10, .long (lN (0))), (9, .int (Int32.ofInt 0)), (8, .int (Int32.ofInt 1)), (4, .int (nI j)), (3, .int (nI i)), (2, .int (nI n)), (0, .ref 76), (1, .int (nI s))]) (l' := [(7, .int (nI d + Int32.ofInt 1)), (5, .long (lN (plW (csW (mW A s (lW J) i j) d) (0)))), (4, .int (nI j)), (3, .int (nI i)), (2, .int (nI n)), (0, .ref 76), (1, .int (nI s))]) ?_ h9
          simp
        · have q86 : eW A (i) = 29 := (nI_eq (by have := (eW_of hw (show i < h by omega)).2; omega) (by decide)).mp (Decidable.not_not.mp h86)
          iterate 5 (refine zv_step (bX7_reckons 3) rfl rfl trivial ?_)
          refine zv_iale (bX7_reckons 3) rfl rfl (show vp_in (nI j - Int32.ofInt 1) 20 by rw [show nI j - Int32.ofInt 1 = nI (j - 1) from sub_1 (by omega)]; exact vp_in_nI (by omega) (by decide)) (show A 8 (nI j - Int32.ofInt 1).toNatClampNeg = nI (eW A (j - 1)) by rw [show nI j - Int32.ofInt 1 = nI (j - 1) from sub_1 (by omega), nI_clamp (by omega)]; exact (eW_of hw (by omega)).1) ?_
          iterate 2 (refine zv_step (bX7_reckons 3) rfl rfl trivial ?_)
          refine zv_ifb (fun h100 => ?_) (fun h100 => ?_)
          · have q100 : ¬ eW A (j - 1) = 30 := fun e => h100 (by rw [e]; rfl)
            iterate 4 (refine zv_step (bX7_reckons 3) rfl rfl trivial ?_)
            refine zv_iff (by decide) ?_
            iterate 15 (refine zv_step (bX7_reckons 3) rfl rfl trivial ?_)
            refine zv_step (bX7_reckons 3) rfl rfl (show vp_in (c8 20 * (c8 21 * nI i + nI j) + nI d) 8820 by rw [show c8 20 * (c8 21 * nI i + nI j) + nI d = nI (20 * (21 * i + j) + d) by rw [ix21, ix20m]]; exact vp_in_nI (by omega) (by decide)) ?_
            iterate 2 (refine zv_step (bX7_reckons 3) rfl rfl trivial ?_)
            refine zv_S2 (bX7_reckons 3) rfl rfl rfl rfl ⟨rfl, rfl, rfl⟩ ⟨by decide, by decide⟩ ⟨Nat.zero_le _, Nat.zero_le _⟩ (mPlus _ (csW_le _ _) (a := csW (mW A s (lW J) i j) d) (b := 0) (Nat.zero_le _)) ?_
            rintro _ _ ⟨rfl, rfl⟩
            iterate 3 (refine zv_step (bX7_reckons 3) rfl rfl trivial ?_)
            have e9 : mW A s (lW J) i j d = 0 := mW_x q50 (fun e => q100 e.2)
            refine zv_world (show _ = wR f o A (updJ J 0 (vp_updL g (20 * (21 * i + j) + d) (lN (mW A s (lW J) i j d)))) from by rw [e9, show 20 * (21 * i + j) + d = (c8 20 * (c8 21 * nI i + nI j) + nI d).toNatClampNeg by rw [show c8 20 * (c8 21 * nI i + nI j) + nI d = nI (20 * (21 * i + j) + d) by rw [ix21, ix20m], nI_clamp (by omega)]]; rfl) ?_
            have e10 : csW (mW A s (lW J) i j) (d + 1) = plW (csW (mW A s (lW J) i j) d) (0) := by
              show plW _ _ = _
              rw [e9]
            have h9 := ih (d + 1) (vp_updL g (20 * (21 * i + j) + d) (lN (mW A s (lW J) i j d))) (by omega) (fun x hx => by
              unfold vp_updL
              rw [if_neg (by omega)]
              exact hg1 x hx) (fun x hx => by
              unfold vp_updL
              split
              · rename_i e
                rw [show x = d by omega]
              · exact hg2 x (by omega)) (x7 := nI d + Int32.ofInt 1) (nI_1 d)
            rw [e10] at h9
            refine zv_locals (l := [(7, .int (nI d + Int32.ofInt 1)), (5, .long (lN (plW (csW (mW A s (lW J) i j) d) (0)))), (10, .long (lN (0))), (9, .int (Int32.ofInt 0)), (8, .int (Int32.ofInt 1)), (4, .int (nI j)), (3, .int (nI i)), (2, .int (nI n)), (0, .ref 76), (1, .int (nI s))]) (l' := [(7, .int (nI d + Int32.ofInt 1)), (5, .long (lN (plW (csW (mW A s (lW J) i j) d) (0)))), (4, .int (nI j)), (3, .int (nI i)), (2, .int (nI n)), (0, .ref 76), (1, .int (nI s))]) ?_ h9
            simp
          · have q100 : eW A (j - 1) = 30 := (nI_eq (by have := (eW_of hw (show j - 1 < h by omega)).2; omega) (by decide)).mp (Decidable.not_not.mp h100)
            iterate 5 (refine zv_step (bX7_reckons 3) rfl rfl trivial ?_)
            refine zv_ift (by decide) ?_
            iterate 2 (refine zv_step (bX7_reckons 3) rfl rfl trivial ?_)
            refine zv_iff (by decide) ?_
            iterate 3 (refine zv_step (bX7_reckons 3) rfl rfl trivial ?_)
            refine zv_step (bX7_reckons 3) rfl rfl (show ¬ Int32.ofInt 2 = 0 by decide) ?_
            iterate 6 (refine zv_step (bX7_reckons 3) rfl rfl trivial ?_)
            refine zv_V3 (bX7_reckons 3) rfl rfl rfl rfl rfl rfl rfl ⟨rfl, rfl, rfl⟩ ⟨by decide, by decide⟩ ⟨Nat.zero_le _, Nat.zero_le _⟩ (mWithin f o A (updJ J 0 g) hh hw (i := i + 1) (j := j - 1) (by omega) (by omega) (L := lW J) (okN_L hN (i := i + 1) (j := j - 1) (by omega) (by omega)) (k := d / 2) (by omega) (half (by omega)) (nI_1 i) (sub_1 (by omega))) ?_
            rintro _ _ ⟨rfl, rfl⟩
            iterate 14 (refine zv_step (bX7_reckons 3) rfl rfl trivial ?_)
            refine zv_step (bX7_reckons 3) rfl rfl (show vp_in (c8 20 * (c8 21 * nI i + nI j) + nI d) 8820 by rw [show c8 20 * (c8 21 * nI i + nI j) + nI d = nI (20 * (21 * i + j) + d) by rw [ix21, ix20m]]; exact vp_in_nI (by omega) (by decide)) ?_
            iterate 2 (refine zv_step (bX7_reckons 3) rfl rfl trivial ?_)
            refine zv_S2 (bX7_reckons 3) rfl rfl rfl rfl ⟨rfl, rfl, rfl⟩ ⟨by decide, by decide⟩ ⟨Nat.zero_le _, Nat.zero_le _⟩ (mPlus _ (csW_le _ _) (a := csW (mW A s (lW J) i j) d) (b := wi (eW A) (A 6) (lW J) (d / 2) (i + 1) (j - 1)) (wi_le (okN_L hN (i := i + 1) (j := j - 1) (by omega) (by omega)))) ?_
            rintro _ _ ⟨rfl, rfl⟩
            iterate 3 (refine zv_step (bX7_reckons 3) rfl rfl trivial ?_)
            have e9 : mW A s (lW J) i j d = wi (eW A) (A 6) (lW J) (d / 2) (i + 1) (j - 1) := mW_o q50 g1 q86 q100
            refine zv_world (show _ = wR f o A (updJ J 0 (vp_updL g (20 * (21 * i + j) + d) (lN (mW A s (lW J) i j d)))) from by rw [e9, show 20 * (21 * i + j) + d = (c8 20 * (c8 21 * nI i + nI j) + nI d).toNatClampNeg by rw [show c8 20 * (c8 21 * nI i + nI j) + nI d = nI (20 * (21 * i + j) + d) by rw [ix21, ix20m], nI_clamp (by omega)]]; rfl) ?_
            have e10 : csW (mW A s (lW J) i j) (d + 1) = plW (csW (mW A s (lW J) i j) d) (wi (eW A) (A 6) (lW J) (d / 2) (i + 1) (j - 1)) := by
              show plW _ _ = _
              rw [e9]
            have h9 := ih (d + 1) (vp_updL g (20 * (21 * i + j) + d) (lN (mW A s (lW J) i j d))) (by omega) (fun x hx => by
              unfold vp_updL
              rw [if_neg (by omega)]
              exact hg1 x hx) (fun x hx => by
              unfold vp_updL
              split
              · rename_i e
                rw [show x = d by omega]
              · exact hg2 x (by omega)) (x7 := nI d + Int32.ofInt 1) (nI_1 d)
            rw [e10] at h9
            refine zv_locals (l := [(7, .int (nI d + Int32.ofInt 1)), (5, .long (lN (plW (csW (mW A s (lW J) i j) d) (wi (eW A) (A 6) (lW J) (d / 2) (i + 1) (j - 1))))), (10, .long (lN (wi (eW A) (A 6) (lW J) (d / 2) (i + 1) (j - 1)))), (9, .int (Int32.ofInt 1)), (8, .int (Int32.ofInt 1)), (4, .int (nI j)), (3, .int (nI i)), (2, .int (nI n)), (0, .ref 76), (1, .int (nI s))]) (l' := [(7, .int (nI d + Int32.ofInt 1)), (5, .long (lN (plW (csW (mW A s (lW J) i j) d) (wi (eW A) (A 6) (lW J) (d / 2) (i + 1) (j - 1))))), (4, .int (nI j)), (3, .int (nI i)), (2, .int (nI n)), (0, .ref 76), (1, .int (nI s))]) ?_ h9
            simp
      · skip
        iterate 1 (refine zv_step (bX7_reckons 3) rfl rfl trivial ?_)
        refine zv_ift (by decide) ?_
        iterate 4 (refine zv_step (bX7_reckons 3) rfl rfl trivial ?_)
        refine zv_iff (by decide) ?_
        iterate 15 (refine zv_step (bX7_reckons 3) rfl rfl trivial ?_)
        refine zv_step (bX7_reckons 3) rfl rfl (show vp_in (c8 20 * (c8 21 * nI i + nI j) + nI d) 8820 by rw [show c8 20 * (c8 21 * nI i + nI j) + nI d = nI (20 * (21 * i + j) + d) by rw [ix21, ix20m]]; exact vp_in_nI (by omega) (by decide)) ?_
        iterate 2 (refine zv_step (bX7_reckons 3) rfl rfl trivial ?_)
        refine zv_S2 (bX7_reckons 3) rfl rfl rfl rfl ⟨rfl, rfl, rfl⟩ ⟨by decide, by decide⟩ ⟨Nat.zero_le _, Nat.zero_le _⟩ (mPlus _ (csW_le _ _) (a := csW (mW A s (lW J) i j) d) (b := 0) (Nat.zero_le _)) ?_
        rintro _ _ ⟨rfl, rfl⟩
        iterate 3 (refine zv_step (bX7_reckons 3) rfl rfl trivial ?_)
        have e9 : mW A s (lW J) i j d = 0 := mW_f (b := 1) q50 g1
        refine zv_world (show _ = wR f o A (updJ J 0 (vp_updL g (20 * (21 * i + j) + d) (lN (mW A s (lW J) i j d)))) from by rw [e9, show 20 * (21 * i + j) + d = (c8 20 * (c8 21 * nI i + nI j) + nI d).toNatClampNeg by rw [show c8 20 * (c8 21 * nI i + nI j) + nI d = nI (20 * (21 * i + j) + d) by rw [ix21, ix20m], nI_clamp (by omega)]]; rfl) ?_
        have e10 : csW (mW A s (lW J) i j) (d + 1) = plW (csW (mW A s (lW J) i j) d) (0) := by
          show plW _ _ = _
          rw [e9]
        have h9 := ih (d + 1) (vp_updL g (20 * (21 * i + j) + d) (lN (mW A s (lW J) i j d))) (by omega) (fun x hx => by
          unfold vp_updL
          rw [if_neg (by omega)]
          exact hg1 x hx) (fun x hx => by
          unfold vp_updL
          split
          · rename_i e
            rw [show x = d by omega]
          · exact hg2 x (by omega)) (x7 := nI d + Int32.ofInt 1) (nI_1 d)
        rw [e10] at h9
        refine zv_locals (l := [(7, .int (nI d + Int32.ofInt 1)), (5, .long (lN (plW (csW (mW A s (lW J) i j) d) (0)))), (10, .long (lN (0))), (9, .int (Int32.ofInt 0)), (8, .int (Int32.ofInt 1)), (4, .int (nI j)), (3, .int (nI i)), (2, .int (nI n)), (0, .ref 76), (1, .int (nI s))]) (l' := [(7, .int (nI d + Int32.ofInt 1)), (5, .long (lN (plW (csW (mW A s (lW J) i j) d) (0)))), (4, .int (nI j)), (3, .int (nI i)), (2, .int (nI n)), (0, .ref 76), (1, .int (nI s))]) ?_ h9
        simp
theorem span_ne {a b i j : Nat} (hb : b ≤ 20) (hj : j ≤ 20) (h : ¬ (a = i ∧ b = j)) : 21 * a + b ≠ 21 * i + j := by omega
theorem okN_step {h : Nat} (hh : h ≤ 20) {A : Nat → Nat → Int32} {s : Nat} {J : Nat → Nat → Int64} {i j n : Nat} (hij : i + n = j) (hn : 1 ≤ n) (hj : j ≤ h) (hN : okN h A s J n i) {g : Nat → Int64} (hg1 : (∀ x, ¬ (20 * (21 * i + j) ≤ x ∧ x < 20 * (21 * i + j) + 20) → g x = J 0 x)) (hg2 : (∀ x, x < 20 → g (20 * (21 * i + j) + x) = lN (mW A s (lW J) i j x))) : okN h A s (updJ (updJ J 0 g) 1 (vp_updL (J 1) (21 * i + j) (lN (csW (mW A s (lW J) i j) 20)))) n (i + 1) := by
  have f1 : ∀ x, x ≠ 21 * i + j → updJ (updJ J 0 g) 1 (vp_updL (J 1) (21 * i + j) (lN (csW (mW A s (lW J) i j) 20))) 1 x = J 1 x := fun x hx => if_neg hx
  have f0 : ∀ x, updJ (updJ J 0 g) 1 (vp_updL (J 1) (21 * i + j) (lN (csW (mW A s (lW J) i j) 20))) 0 x = g x := fun x => rfl
  intro a b hab hb hf
  by_cases e : a = i ∧ b = j
  · obtain ⟨rfl, rfl⟩ := e
    have eL : ∀ a' b', a ≤ a' → a' < b' → b' ≤ b → b' - a' < b - a → lW J a' b' = lW (updJ (updJ J 0 g) 1 (vp_updL (J 1) (21 * a + b) (lN (csW (mW A s (lW J) a b) 20)))) a' b' := fun a' b' h1 h2 h3 h4 => by
      exact congrArg (fun v : Int64 => v.toInt.toNat) (f1 _ (span_ne (by omega) (by omega) (by omega))).symm
    refine ⟨fun c hc => ?_, ?_⟩
    · rw [f0, hg2 c hc, mW_cg eL]
    · rw [csW_cg 20 (fun d _ => (mW_cg (c := d) eL).symm)]
      exact if_pos rfl
  · refine okS_fr hab (hN a b hab hb (by omega)) (fun a' b' h1 h2 h3 => f1 _ (span_ne (by omega) (by omega) (by omega))) (fun c hc => ?_)
    rw [f0]
    exact hg1 _ (by have := span_ne (a := a) (b := b) (i := i) (j := j) (by omega) (by omega) e; omega)
set_option maxHeartbeats 1000000 in
set_option maxRecDepth 20000 in
theorem rkI (f : Nat → zC) (o : Nat → Int32) (A : Nat → Nat → Int32) {h : Nat} (hh : h ≤ 20) (hw : nnW h (A 8)) (ho10 : o 10 = nI h) {s : Nat} (hs : s ≤ 8) (ho : o 28 = nI s) {n : Nat} (hn : 1 ≤ n) (hnh : n ≤ h) {n0 : Nat} {Q : Option Value → zW → Prop} (kk : ∀ J', okN h A s J' (n + 1) 0 → zV (zMo 3 zX7_reckons) false n0 0 0 210 [(2, .int (nI n)), (0, .ref 76), (1, .int (nI s))] [] (wR f o A J') Q) : ∀ (c i : Nat) (J : Nat → Nat → Int64), i + c + n = h + 1 → okN h A s J n i → ∀ {x3 : Int32}, x3 = nI i → zV (zMo 3 zX7_reckons) false n0 0 0 17 [(3, .int x3), (2, .int (nI n)), (0, .ref 76), (1, .int (nI s))] [] (wR f o A J) Q := by
  intro c
  induction c with
  | zero =>
    intro i J hc hN x3 e3
    subst e3
    iterate 6 (refine zv_step (bX7_reckons 3) rfl rfl trivial ?_)
    refine zv_ift (show o 10 < nI i + nI n by rw [ho10, nI_add]; exact nI_lt (by omega) (by omega)) ?_
    refine zv_locals (l := [(3, .int (nI i)), (2, .int (nI n)), (0, .ref 76), (1, .int (nI s))]) (l' := [(2, .int (nI n)), (0, .ref 76), (1, .int (nI s))]) ?_ (kk J (fun a b h1 h2 h3 => hN a b h1 h2 (by omega)))
    simp
  | succ c ih =>
    intro i J hc hN x3 e3
    subst e3
    iterate 6 (refine zv_step (bX7_reckons 3) rfl rfl trivial ?_)
    refine zv_iff (show ¬ o 10 < nI i + nI n by rw [ho10, nI_add]; exact nI_nlt (by omega) (by omega)) ?_
    iterate 8 (refine zv_step (bX7_reckons 3) rfl rfl trivial ?_)
    refine zv_world (show _ = wR f o A (updJ J 0 (J 0)) from rfl) ?_
    refine zv_locals (l := [(7, .int (Int32.ofInt 0)), (5, .long (lN 0)), (4, .int (nI i + nI n)), (3, .int (nI i)), (2, .int (nI n)), (0, .ref 76), (1, .int (nI s))]) (l' := [(7, .int (Int32.ofInt 0)), (5, .long (lN 0)), (4, .int (nI i + nI n)), (3, .int (nI i)), (2, .int (nI n)), (0, .ref 76), (1, .int (nI s))]) (fun q h => h) ?_
    rw [nI_add]
    refine rkC f o A J hh hw hs ho (i := i) (j := i + n) rfl hn (by omega) hN (fun g hg1 hg2 => ?_) 20 0 (J 0) (by omega) (fun _ _ => rfl) (fun x hx => absurd hx (by omega)) rfl
    iterate 8 (refine zv_step (bX7_reckons 3) rfl rfl trivial ?_)
    refine zv_step (bX7_reckons 3) rfl rfl (show vp_in (c8 21 * nI i + nI (i + n)) 441 by rw [ix21]; exact vp_in_nI (by omega) (by decide)) ?_
    iterate 2 (refine zv_step (bX7_reckons 3) rfl rfl trivial ?_)
    refine zv_world (show _ = wR f o A (updJ (updJ J 0 g) 1 (vp_updL (J 1) (21 * i + (i + n)) (lN (csW (mW A s (lW J) i (i + n)) 20)))) from by rw [show 21 * i + (i + n) = (c8 21 * nI i + nI (i + n)).toNatClampNeg by rw [ix21, nI_clamp (by omega)]]; rfl) ?_
    refine zv_locals (l := [(3, .int (nI i + Int32.ofInt 1)), (5, .long (lN (csW (mW A s (lW J) i (i + n)) 20))), (4, .int (nI (i + n))), (2, .int (nI n)), (0, .ref 76), (1, .int (nI s))]) (l' := [(3, .int (nI i + Int32.ofInt 1)), (2, .int (nI n)), (0, .ref 76), (1, .int (nI s))]) ?_ (ih (i + 1) _ (by omega) (okN_step hh rfl hn (by omega) hN hg1 hg2) (nI_1 i))
    simp
set_option maxHeartbeats 1000000 in
set_option maxRecDepth 20000 in
theorem rkN (f : Nat → zC) (o : Nat → Int32) (A : Nat → Nat → Int32) {h : Nat} (hh : h ≤ 20) (hw : nnW h (A 8)) (ho10 : o 10 = nI h) {s : Nat} (hs : s ≤ 8) (ho : o 28 = nI s) {n0 : Nat} : ∀ (c n : Nat) (J : Nat → Nat → Int64), n + c = h + 1 → 1 ≤ n → okN h A s J n 0 → ∀ {x2 : Int32}, x2 = nI n → zV (zMo 3 zX7_reckons) false n0 0 0 7 [(2, .int x2), (0, .ref 76), (1, .int (nI s))] [] (wR f o A J) (fun r w' => r = none ∧ ∃ J', w' = wR f o A J' ∧ okJ h A s J') := by
  intro c
  induction c with
  | zero =>
    intro n J hc hn hN x2 e2
    subst e2
    iterate 4 (refine zv_step (bX7_reckons 3) rfl rfl trivial ?_)
    refine zv_ift (show o 10 < nI n by rw [ho10]; exact nI_lt (by omega) (by omega)) ?_
    exact zv_ret (bX7_reckons 3) rfl rfl (Nat.zero_le _) (Nat.zero_le _) ⟨rfl, J, rfl, fun i j h1 h2 => hN i j h1 h2 (Or.inl (by omega))⟩
  | succ c ih =>
    intro n J hc hn hN x2 e2
    subst e2
    iterate 4 (refine zv_step (bX7_reckons 3) rfl rfl trivial ?_)
    refine zv_iff (show ¬ o 10 < nI n by rw [ho10]; exact nI_nlt (by omega) (by omega)) ?_
    iterate 2 (refine zv_step (bX7_reckons 3) rfl rfl trivial ?_)
    refine zv_locals (l := [(3, .int (Int32.ofInt 0)), (2, .int (nI n)), (0, .ref 76), (1, .int (nI s))]) (l' := [(3, .int (Int32.ofInt 0)), (2, .int (nI n)), (0, .ref 76), (1, .int (nI s))]) (fun q h => h) (rkI f o A hh hw ho10 hs ho hn (by omega) (fun J' hN' => ?_) (h + 1 - n) 0 J (by omega) hN rfl)
    iterate 2 (refine zv_step (bX7_reckons 3) rfl rfl trivial ?_)
    exact ih (n + 1) J' (by omega) (by omega) hN' (nI_1 n)
set_option maxHeartbeats 1000000 in
set_option maxRecDepth 20000 in
theorem mReckons (f : Nat → zC) (o : Nat → Int32) (A : Nat → Nat → Int32) (J : Nat → Nat → Int64) {h : Nat} (hh : h ≤ 20) (hw : nnW h (A 8)) (ho10 : o 10 = nI h) {s : Nat} (hs : s ≤ 8) {x : Int32} (ex : x = nI s) : zK 3 zX7_reckons [.ref 76, .int x] (wR f o A J) (fun r w' => r = none ∧ ∃ J', w' = wR f (upd o 28 (nI s)) A J' ∧ okJ h A s J') := by
  subst ex
  refine zK_of qX7_reckons (by decide +kernel) rfl ?_
  iterate 5 (refine zv_step (bX7_reckons 3) rfl rfl trivial ?_)
  refine zv_world (show _ = wR f (upd o 28 (nI s)) A J from rfl) ?_
  exact rkN f (upd o 28 (nI s)) A hh hw ho10 hs rfl h 1 J (by omega) (Nat.le_refl _) (fun a b h1 h2 h3 => absurd h3 (by omega)) rfl
def ctW (h : Nat) (J : Nat → Nat → Int64) : Nat := if h = 0 then 0 else lW J 0 h
set_option maxHeartbeats 1000000 in
set_option maxRecDepth 20000 in
theorem mCounted (f : Nat → zC) (o : Nat → Int32) (A : Nat → Nat → Int32) (J : Nat → Nat → Int64) {h : Nat} (hh : h ≤ 20) (hw : nnW h (A 8)) (ho10 : o 10 = nI h) {s : Nat} (hs : s ≤ 8) {x : Int32} (ex : x = nI s) : zK 4 zX7_counted [.ref 76, .int x] (wR f o A J) (fun r w' => ∃ J', r = some (.long (lN (ctW h J'))) ∧ w' = wR f (upd o 28 (nI s)) A J' ∧ okJ h A s J') := by
  refine zK_of qX7_counted (by decide +kernel) rfl ?_
  iterate 2 (refine zv_step (bX7_counted 4) rfl rfl trivial ?_)
  refine zv_V1 (bX7_counted 4) rfl rfl rfl rfl rfl rfl rfl ⟨rfl, rfl, rfl⟩ ⟨by decide, by decide⟩ ⟨Nat.zero_le _, Nat.zero_le _⟩ (mReckons f o A J hh hw ho10 hs ex) ?_
  rintro _ _ ⟨rfl, J', rfl, hJ⟩
  iterate 3 (refine zv_step (bX7_counted 4) rfl rfl trivial ?_)
  refine zv_ifb (fun h9 => ?_) (fun h9 => ?_)
  · have q9 : h ≠ 0 := fun e => h9 (by show o 10 = 0; rw [ho10, e]; rfl)
    iterate 4 (refine zv_step (bX7_counted 4) rfl rfl trivial ?_)
    refine zv_lale (bX7_counted 4) rfl rfl (show vp_in (o 10) 441 by rw [ho10]; exact vp_in_nI (by omega) (by decide)) (show J' 1 (o 10).toNatClampNeg = lN (ctW h J') by rw [ho10, nI_clamp (by omega)]; unfold ctW; rw [if_neg q9]; have := (okS_l (hJ 0 h (by omega) (Nat.le_refl _))).2.2; rw [show 21 * 0 + h = h by omega] at this; exact this) ?_
    exact zv_lret (bX7_counted 4) rfl rfl (Nat.zero_le _) (Nat.zero_le _) ⟨J', rfl, rfl, hJ⟩
  · have q9 : h = 0 := (nI_eq (by omega) (by decide)).mp (show nI h = nI 0 by rw [← ho10]; exact Decidable.not_not.mp h9)
    iterate 2 (refine zv_step (bX7_counted 4) rfl rfl trivial ?_)
    exact zv_lret (bX7_counted 4) rfl rfl (Nat.zero_le _) (Nat.zero_le _) ⟨J', by unfold ctW; rw [if_pos q9]; rfl, rfl, hJ⟩
set_option maxHeartbeats 1000000 in
set_option maxRecDepth 20000 in
theorem mReadings (f : Nat → zC) (o : Nat → Int32) (A : Nat → Nat → Int32) (J : Nat → Nat → Int64) {h : Nat} (hh : h ≤ 20) (hw : nnW h (A 8)) (ho10 : o 10 = nI h) (x : Int32) : zK 5 zX7_readings [.ref 76, .int x] (wR f o A J) (fun r w' => ∃ (R : Int64) (o' : Nat → Int32) (J' : Nat → Nat → Int64), r = some (.long R) ∧ w' = wR f o' A J' ∧ ∀ j, j ≠ 16 → j ≠ 28 → o' j = o j) := by
  refine zK_of qX7_readings (by decide +kernel) rfl ?_
  iterate 5 (refine zv_step (bX7_readings 5) rfl rfl trivial ?_)
  refine zv_S3 (bX7_readings 5) rfl rfl rfl rfl ⟨rfl, rfl, rfl⟩ ⟨by decide, by decide⟩ ⟨Nat.zero_le _, Nat.zero_le _⟩ (mIn _ _ _ _ (a := 0) (b := 8) (by decide) (by decide)) ?_
  rintro _ _ ⟨rfl, ⟨g1, rfl⟩ | ⟨g1, rfl⟩⟩
  · obtain ⟨s, hs, rfl⟩ := in_nat (x := x) (b := 8) (by decide) g1
    iterate 1 (refine zv_step (bX7_readings 5) rfl rfl trivial ?_)
    refine zv_iff (by decide) ?_
    iterate 6 (refine zv_step (bX7_readings 5) rfl rfl trivial ?_)
    refine zv_iff (by decide) ?_
    iterate 2 (refine zv_step (bX7_readings 5) rfl rfl trivial ?_)
    refine zv_V1 (bX7_readings 5) rfl rfl rfl rfl rfl rfl rfl ⟨rfl, rfl, rfl⟩ ⟨by decide, by decide⟩ ⟨Nat.zero_le _, Nat.zero_le _⟩ (mCounted f (upd o 16 (Int32.ofInt 0)) A J hh hw ho10 hs rfl) ?_
    rintro _ _ ⟨J', rfl, rfl, hJ⟩
    iterate 1 (refine zv_step (bX7_readings 5) rfl rfl trivial ?_)
    exact zv_lret (bX7_readings 5) rfl rfl (Nat.zero_le _) (Nat.zero_le _) ⟨_, upd (upd o 16 (Int32.ofInt 0)) 28 (nI s), J', rfl, rfl, fun j a b => by rw [upd_ne _ _ b, upd_ne _ _ a]⟩
  · skip
    iterate 1 (refine zv_step (bX7_readings 5) rfl rfl trivial ?_)
    refine zv_ift (by decide) ?_
    iterate 5 (refine zv_step (bX7_readings 5) rfl rfl trivial ?_)
    refine zv_ift (by decide) ?_
    iterate 1 (refine zv_step (bX7_readings 5) rfl rfl trivial ?_)
    exact zv_lret (bX7_readings 5) rfl rfl (Nat.zero_le _) (Nat.zero_le _) ⟨_, upd o 16 (Int32.ofInt 1), J, rfl, rfl, fun j a b => upd_ne _ _ a⟩
