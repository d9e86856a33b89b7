def rdv (g : Nat → Int32) (x : Int32) : Int32 := if 0 ≤ x then g x.toNatClampNeg else Int32.ofInt 0
def mxv (a b : Int32) : Int32 := if a ≤ b then b else a
/-- what sets writes -/
def setsA (A : Nat → Nat → Int32) (n : Nat) (k v x y : Int32) : Nat → Nat → Int32 := updA (updA (updA (updA (updA (updA A 0 (upd (A 0) n k)) 1 (upd (A 1) n v)) 2 (upd (A 2) n x)) 3 (upd (A 3) n y)) 4 (upd (A 4) n (Int32.ofInt 1 + rdv (A 4) x + rdv (A 4) y))) 5 (upd (A 5) n (Int32.ofInt 1 + mxv (rdv (A 5) x) (rdv (A 5) y)))
set_option maxHeartbeats 1000000 in
set_option maxRecDepth 20000 in
theorem mSets (f : Nat → zC) (o : Nat → Int32) (A : Nat → Nat → Int32) (J : Nat → Nat → Int64) {n k v x y : Int32} (hat : vp_in n 450) (hx : 0 ≤ x → vp_in x 450) (hy : 0 ≤ y → vp_in y 450) : zK 0 zX7_sets [.ref 76, .int n, .int k, .int v, .int x, .int y] (wR f o A J) (fun r w' => r = none ∧ w' = wR f o (setsA A n.toNatClampNeg k v x y) J) := by
  refine zK_of qX7_sets (by decide +kernel) rfl ?_
  iterate 4 (refine zv_step (bX7_sets 0) rfl rfl trivial ?_)
  refine zv_step (bX7_sets 0) rfl rfl (hat) ?_
  iterate 4 (refine zv_step (bX7_sets 0) rfl rfl trivial ?_)
  refine zv_step (bX7_sets 0) rfl rfl (hat) ?_
  iterate 4 (refine zv_step (bX7_sets 0) rfl rfl trivial ?_)
  refine zv_step (bX7_sets 0) rfl rfl (hat) ?_
  iterate 4 (refine zv_step (bX7_sets 0) rfl rfl trivial ?_)
  refine zv_step (bX7_sets 0) rfl rfl (hat) ?_
  iterate 6 (refine zv_step (bX7_sets 0) rfl rfl trivial ?_)
  refine zv_ifb (fun hx0 => ?_) (fun hx0 => ?_)
  · iterate 3 (refine zv_step (bX7_sets 0) rfl rfl trivial ?_)
    refine zv_step (bX7_sets 0) rfl rfl (hx hx0) ?_
    iterate 3 (refine zv_step (bX7_sets 0) rfl rfl trivial ?_)
    refine zv_ifb (fun hy0 => ?_) (fun hy0 => ?_)
    · iterate 3 (refine zv_step (bX7_sets 0) rfl rfl trivial ?_)
      refine zv_step (bX7_sets 0) rfl rfl (hy hy0) ?_
      iterate 1 (refine zv_step (bX7_sets 0) rfl rfl trivial ?_)
      refine zv_step (bX7_sets 0) rfl rfl (hat) ?_
      iterate 2 (refine zv_step (bX7_sets 0) rfl rfl trivial ?_)
      refine zv_ift (hx0) ?_
      iterate 3 (refine zv_step (bX7_sets 0) rfl rfl trivial ?_)
      refine zv_step (bX7_sets 0) rfl rfl (hx hx0) ?_
      iterate 3 (refine zv_step (bX7_sets 0) rfl rfl trivial ?_)
      refine zv_ift (hy0) ?_
      iterate 3 (refine zv_step (bX7_sets 0) rfl rfl trivial ?_)
      refine zv_step (bX7_sets 0) rfl rfl (hy hy0) ?_
      iterate 8 (refine zv_step (bX7_sets 0) rfl rfl trivial ?_)
      refine zv_ifb (fun hc => ?_) (fun hc => ?_)
      · iterate 2 (refine zv_step (bX7_sets 0) rfl rfl trivial ?_)
        refine zv_step (bX7_sets 0) rfl rfl (hat) ?_
        exact zv_ret (bX7_sets 0) rfl rfl (Nat.zero_le _) (Nat.zero_le _) ⟨rfl, by unfold setsA mxv rdv; simp only [hx0, hy0, hc, if_true, if_false]; rfl⟩
      · iterate 3 (refine zv_step (bX7_sets 0) rfl rfl trivial ?_)
        refine zv_step (bX7_sets 0) rfl rfl (hat) ?_
        exact zv_ret (bX7_sets 0) rfl rfl (Nat.zero_le _) (Nat.zero_le _) ⟨rfl, by unfold setsA mxv rdv; simp only [hx0, hy0, hc, if_true, if_false]; rfl⟩
    · iterate 3 (refine zv_step (bX7_sets 0) rfl rfl trivial ?_)
      refine zv_step (bX7_sets 0) rfl rfl (hat) ?_
      iterate 2 (refine zv_step (bX7_sets 0) rfl rfl trivial ?_)
      refine zv_ift (hx0) ?_
      iterate 3 (refine zv_step (bX7_sets 0) rfl rfl trivial ?_)
      refine zv_step (bX7_sets 0) rfl rfl (hx hx0) ?_
      iterate 3 (refine zv_step (bX7_sets 0) rfl rfl trivial ?_)
      refine zv_iff (hy0) ?_
      iterate 10 (refine zv_step (bX7_sets 0) rfl rfl trivial ?_)
      refine zv_ifb (fun hc => ?_) (fun hc => ?_)
      · iterate 2 (refine zv_step (bX7_sets 0) rfl rfl trivial ?_)
        refine zv_step (bX7_sets 0) rfl rfl (hat) ?_
        exact zv_ret (bX7_sets 0) rfl rfl (Nat.zero_le _) (Nat.zero_le _) ⟨rfl, by unfold setsA mxv rdv; simp only [hx0, hy0, hc, if_true, if_false]; rfl⟩
      · iterate 3 (refine zv_step (bX7_sets 0) rfl rfl trivial ?_)
        refine zv_step (bX7_sets 0) rfl rfl (hat) ?_
        exact zv_ret (bX7_sets 0) rfl rfl (Nat.zero_le _) (Nat.zero_le _) ⟨rfl, by unfold setsA mxv rdv; simp only [hx0, hy0, hc, if_true, if_false]; rfl⟩
  · iterate 5 (refine zv_step (bX7_sets 0) rfl rfl trivial ?_)
    refine zv_ifb (fun hy0 => ?_) (fun hy0 => ?_)
    · iterate 3 (refine zv_step (bX7_sets 0) rfl rfl trivial ?_)
      refine zv_step (bX7_sets 0) rfl rfl (hy hy0) ?_
      iterate 1 (refine zv_step (bX7_sets 0) rfl rfl trivial ?_)
      refine zv_step (bX7_sets 0) rfl rfl (hat) ?_
      iterate 2 (refine zv_step (bX7_sets 0) rfl rfl trivial ?_)
      refine zv_iff (hx0) ?_
      iterate 5 (refine zv_step (bX7_sets 0) rfl rfl trivial ?_)
      refine zv_ift (hy0) ?_
      iterate 3 (refine zv_step (bX7_sets 0) rfl rfl trivial ?_)
      refine zv_step (bX7_sets 0) rfl rfl (hy hy0) ?_
      iterate 8 (refine zv_step (bX7_sets 0) rfl rfl trivial ?_)
      refine zv_ifb (fun hc => ?_) (fun hc => ?_)
      · iterate 2 (refine zv_step (bX7_sets 0) rfl rfl trivial ?_)
        refine zv_step (bX7_sets 0) rfl rfl (hat) ?_
        exact zv_ret (bX7_sets 0) rfl rfl (Nat.zero_le _) (Nat.zero_le _) ⟨rfl, by unfold setsA mxv rdv; simp only [hx0, hy0, hc, if_true, if_false]; rfl⟩
      · iterate 3 (refine zv_step (bX7_sets 0) rfl rfl trivial ?_)
        refine zv_step (bX7_sets 0) rfl rfl (hat) ?_
        exact zv_ret (bX7_sets 0) rfl rfl (Nat.zero_le _) (Nat.zero_le _) ⟨rfl, by unfold setsA mxv rdv; simp only [hx0, hy0, hc, if_true, if_false]; rfl⟩
    · iterate 3 (refine zv_step (bX7_sets 0) rfl rfl trivial ?_)
      refine zv_step (bX7_sets 0) rfl rfl (hat) ?_
      iterate 2 (refine zv_step (bX7_sets 0) rfl rfl trivial ?_)
      refine zv_iff (hx0) ?_
      iterate 5 (refine zv_step (bX7_sets 0) rfl rfl trivial ?_)
      refine zv_iff (hy0) ?_
      iterate 10 (refine zv_step (bX7_sets 0) rfl rfl trivial ?_)
      refine zv_ifb (fun hc => ?_) (fun hc => ?_)
      · iterate 2 (refine zv_step (bX7_sets 0) rfl rfl trivial ?_)
        refine zv_step (bX7_sets 0) rfl rfl (hat) ?_
        exact zv_ret (bX7_sets 0) rfl rfl (Nat.zero_le _) (Nat.zero_le _) ⟨rfl, by unfold setsA mxv rdv; simp only [hx0, hy0, hc, if_true, if_false]; rfl⟩
      · iterate 3 (refine zv_step (bX7_sets 0) rfl rfl trivial ?_)
        refine zv_step (bX7_sets 0) rfl rfl (hat) ?_
        exact zv_ret (bX7_sets 0) rfl rfl (Nat.zero_le _) (Nat.zero_le _) ⟨rfl, by unfold setsA mxv rdv; simp only [hx0, hy0, hc, if_true, if_false]; rfl⟩
/-- .. with so many words said, and these -/
abbrev wQ (f : Nat → zC) (o : Nat → Int32) (A : Nat → Nat → Int32) (J : Nat → Nat → Int64) (q : Nat) (g : Nat → Int32) : zW := wR f (upd o 18 (nI q)) (updA A 14 g) J
/-- a row with words put behind each other from a place on -/
def appA : (Nat → Int32) → Nat → List Int32 → Nat → Int32
  | g, _, [] => g
  | g, q, v :: L => appA (upd g q v) (q + 1) L
theorem appA_app : ∀ (L M : List Int32) (g : Nat → Int32) (q : Nat), appA g q (L ++ M) = appA (appA g q L) (q + L.length) M
  | [], M, g, q => rfl
  | v :: L, M, g, q => by
    show appA (upd g q v) (q + 1) (L ++ M) = appA (appA (upd g q v) (q + 1) L) (q + (L.length + 1)) M
    rw [appA_app L M, show q + 1 + L.length = q + (L.length + 1) by omega]
theorem appA_lo : ∀ (L : List Int32) (g : Nat → Int32) (q i : Nat), i < q → appA g q L i = g i
  | [], g, q, i, h => rfl
  | v :: L, g, q, i, h => by
    show appA (upd g q v) (q + 1) L i = g i
    rw [appA_lo L _ _ i (by omega)]
    exact if_neg (by omega)
theorem appA_at : ∀ (L : List Int32) (g : Nat → Int32) (q i : Nat) {v : Int32}, L[i]? = some v → appA g q L (q + i) = v
  | [], g, q, i, v, h => by cases h
  | u :: L, g, q, 0, v, h => by
    show appA (upd g q u) (q + 1) L (q + 0) = v
    rw [appA_lo L _ _ _ (by omega)]
    cases h
    exact if_pos rfl
  | u :: L, g, q, i + 1, v, h => by
    show appA (upd g q u) (q + 1) L (q + (i + 1)) = v
    rw [show q + (i + 1) = q + 1 + i by omega]
    exact appA_at L _ _ i h
set_option maxHeartbeats 4000000 in
set_option maxRecDepth 20000 in
theorem mSays (f : Nat → zC) (o : Nat → Int32) (A : Nat → Nat → Int32) (J : Nat → Nat → Int64) (q : Nat) (g : Nat → Int32) (hq : q < 256) (v : Int32) : zK 0 zX7_says [.ref 76, .int v] (wQ f o A J q g) (fun r w' => r = none ∧ w' = wQ f o A J (q + 1) (upd g q v)) := by
  have e1 : (nI q).toNatClampNeg = q := nI_clamp (by omega)
  have e2 : nI q + Int32.ofInt 1 = nI (q + 1) := nI_1 q
  refine zK_of qX7_says (by decide +kernel) rfl ?_
  iterate 5 (refine zv_step (bX7_says 0) rfl rfl trivial ?_)
  refine zv_step (bX7_says 0) rfl rfl (show vp_in (nI q) 256 from vp_in_nI hq (by decide)) ?_
  iterate 6 (refine zv_step (bX7_says 0) rfl rfl trivial ?_)
  refine zv_ret (bX7_says 0) rfl rfl (Nat.zero_le _) (Nat.zero_le _) ⟨rfl, ?_⟩
  show wR f (upd o 18 (nI q + Int32.ofInt 1)) (updA A 14 (upd g (nI q).toNatClampNeg v)) J = _
  rw [e1, e2]
abbrev m2 : Int32 := c8 (-2)
/-- the SIZE that stands at a place of the table -/
def szN (A : Nat → Nat → Int32) (n : Nat) : Nat := (A 4 n).toNatClampNeg
/-- a NODE of the table, its PARTS at places from lo on and below it -/
def rN (lo : Nat) (A : Nat → Nat → Int32) (n : Nat) : Prop :=
  ∃ k z : Nat, A 0 n = nI k ∧ k < 10 ∧ A 4 n = nI z ∧ z ≤ 40 ∧
   ((k < 2 ∧ A 2 n = m2 ∧ A 3 n = m2 ∧ z = 1) ∨
    (2 ≤ k ∧ k ≤ 6 ∧ ∃ a b : Nat, A 2 n = nI a ∧ lo ≤ a ∧ a < n ∧ A 3 n = nI b ∧ lo ≤ b ∧ b < n ∧ z = 1 + szN A a + szN A b) ∨
    (7 ≤ k ∧ ∃ a : Nat, A 2 n = nI a ∧ lo ≤ a ∧ a < n ∧ A 3 n = m2 ∧ z = 1 + szN A a)) ∧
   ((k = 0 ∨ k = 9 → ∃ v : Nat, v ≤ 9 ∧ A 1 n = nI v) ∧ (k = 1 → ∃ v : Nat, v ≤ 9999 ∧ A 1 n = nI v) ∧ (2 ≤ k → k ≤ 8 → A 1 n = m2))
def tbI (lo hi : Nat) (A : Nat → Nat → Int32) : Prop := ∀ n, lo ≤ n → n < hi → rN lo A n
/-- none, or a NODE of a SIZE of at most z -/
def pt (lo hi : Nat) (A : Nat → Nat → Int32) (z : Nat) (x : Int32) : Prop := x = m2 ∨ ∃ n : Nat, x = nI n ∧ lo ≤ n ∧ n < hi ∧ szN A n ≤ z
theorem szN_of {A : Nat → Nat → Int32} {n z : Nat} (h : A 4 n = nI z) (hz : z ≤ 40) : szN A n = z := by
  unfold szN
  rw [h, nI_clamp (by omega)]
theorem rN_sz {lo n : Nat} {A : Nat → Nat → Int32} (h : rN lo A n) : 1 ≤ szN A n ∧ szN A n ≤ 40 ∧ A 4 n = nI (szN A n) := by
  obtain ⟨k, z, _, _, h4, hz, hs, _⟩ := h
  rw [szN_of h4 hz]
  refine ⟨?_, hz, h4⟩
  rcases hs with ⟨_, _, _, e⟩ | ⟨_, _, _, _, _, _, _, _, _, _, e⟩ | ⟨_, _, _, _, _, _, e⟩ <;> omega
theorem rN_parts {lo hi n z : Nat} {A : Nat → Nat → Int32} (hT : tbI lo hi A) (hlo : lo ≤ n) (hn : n < hi) (hz : szN A n ≤ z + 1) : pt lo hi A z (A 2 n) ∧ pt lo hi A z (A 3 n) := by
  obtain ⟨k, y, _, _, h4, hy, hs, _⟩ := hT n hlo hn
  rw [szN_of h4 hy] at hz
  rcases hs with ⟨_, h2, h3, e⟩ | ⟨_, _, a, b, h2, la, ha, h3, lb, hb, e⟩ | ⟨_, a, h2, la, ha, h3, e⟩
  · exact ⟨Or.inl h2, Or.inl h3⟩
  · exact ⟨Or.inr ⟨a, h2, la, by omega, by omega⟩, Or.inr ⟨b, h3, lb, by omega, by omega⟩⟩
  · exact ⟨Or.inr ⟨a, h2, la, by omega, by omega⟩, Or.inl h3⟩
theorem pt_zero {lo hi : Nat} {A : Nat → Nat → Int32} (hT : tbI lo hi A) {x : Int32} (h : pt lo hi A 0 x) : m2 = x := by
  rcases h with rfl | ⟨n, _, hlo, hn, hz⟩
  · rfl
  · have := (rN_sz (hT n hlo hn)).1
    omega
theorem pt_le {lo hi y z : Nat} {A : Nat → Nat → Int32} {x : Int32} (h : pt lo hi A y x) (hz : y ≤ z) : pt lo hi A z x := h.imp id (fun ⟨n, e, a, b, c⟩ => ⟨n, e, a, b, by omega⟩)
theorem pt_of {lo hi n : Nat} {A : Nat → Nat → Int32} (hT : tbI lo hi A) (hlo : lo ≤ n) (hn : n < hi) : pt lo hi A 40 (nI n) := Or.inr ⟨n, rfl, hlo, hn, (rN_sz (hT n hlo hn)).2.1⟩
theorem rN_kd {lo n : Nat} {A : Nat → Nat → Int32} (h : rN lo A n) : ∃ k : Nat, k < 10 ∧ A 0 n = nI k := by
  obtain ⟨k, _, e, hk, _⟩ := h
  exact ⟨k, hk, e⟩
theorem rN_let {lo n : Nat} {A : Nat → Nat → Int32} (h : rN lo A n) (e : A 0 n = 0 ∨ A 0 n = c8 9) : ∃ v : Nat, v ≤ 9 ∧ A 1 n = nI v := by
  obtain ⟨k, _, ek, hk, _, _, _, hv, _⟩ := h
  refine hv ?_
  rw [ek] at e
  rcases e with e | e
  · exact Or.inl ((nI_eq (by omega) (by decide)).mp (e.trans nI_0.symm))
  · exact Or.inr ((nI_eq (by omega) (by decide)).mp (e.trans (show c8 9 = nI 9 from rfl)))
theorem rN_fr {lo n : Nat} {A A' : Nat → Nat → Int32} (h : rN lo A n) (hlo : lo ≤ n) (e : ∀ r, r < 5 → ∀ i, lo ≤ i → i ≤ n → A' r i = A r i) : rN lo A' n := by
  obtain ⟨k, z, h0, hk, h4, hz, hs, hv⟩ := h
  have es : ∀ i, lo ≤ i → i ≤ n → szN A' i = szN A i := fun i a b => by
    unfold szN
    rw [e 4 (by decide) i a b]
  refine ⟨k, z, (e 0 (by decide) n hlo (Nat.le_refl _)).trans h0, hk, (e 4 (by decide) n hlo (Nat.le_refl _)).trans h4, hz, ?_, ?_⟩
  · rw [e 2 (by decide) n hlo (Nat.le_refl _), e 3 (by decide) n hlo (Nat.le_refl _)]
    rcases hs with h | ⟨k1, k2, a, b, h2, la, ha, h3, lb, hb, ez⟩ | ⟨k1, a, h2, la, ha, h3, ez⟩
    · exact Or.inl h
    · exact Or.inr (Or.inl ⟨k1, k2, a, b, h2, la, ha, h3, lb, hb, by rw [es a la (by omega), es b lb (by omega)]; exact ez⟩)
    · exact Or.inr (Or.inr ⟨k1, a, h2, la, ha, h3, by rw [es a la (by omega)]; exact ez⟩)
  · rw [e 1 (by decide) n hlo (Nat.le_refl _)]
    exact hv
theorem tbI_fr {lo hi : Nat} {A A' : Nat → Nat → Int32} (h : tbI lo hi A) (e : ∀ r, r < 5 → ∀ i, lo ≤ i → i < hi → A' r i = A r i) : tbI lo hi A' := fun n a b => rN_fr (h n a b) a (fun r hr i hi1 hi2 => e r hr i hi1 (by omega))
theorem tbI_le {lo hi hi' : Nat} {A : Nat → Nat → Int32} (h : tbI lo hi A) (hl : hi' ≤ hi) : tbI lo hi' A := fun n a b => h n a (by omega)
theorem rdv_nI {g : Nat → Int32} {n : Nat} (h : n < 2 ^ 31) : rdv g (nI n) = g n := by
  unfold rdv
  rw [if_pos (nI_pos' h), nI_clamp h]
theorem rdv_m2 (g : Nat → Int32) : rdv g m2 = Int32.ofInt 0 := if_neg (by decide)
theorem vpm2 {n : Nat} : 0 ≤ m2 → vp_in m2 n := fun h => absurd h (by decide)
theorem setsA_o {A : Nat → Nat → Int32} {n i r : Nat} {k v x y : Int32} (h : i ≠ n) : setsA A n k v x y r i = A r i := by
  unfold setsA updA
  split
  · rename_i e; subst e; exact upd_ne _ _ h
  · split
    · rename_i e; subst e; exact upd_ne _ _ h
    · split
      · rename_i e; subst e; exact upd_ne _ _ h
      · split
        · rename_i e; subst e; exact upd_ne _ _ h
        · split
          · rename_i e; subst e; exact upd_ne _ _ h
          · split
            · rename_i e; subst e; exact upd_ne _ _ h
            · rfl
theorem setsA_r {A : Nat → Nat → Int32} {n r : Nat} {k v x y : Int32} (h : 6 ≤ r) : setsA A n k v x y r = A r := by
  unfold setsA
  rw [updA_ne _ _ (by omega), updA_ne _ _ (by omega), updA_ne _ _ (by omega), updA_ne _ _ (by omega), updA_ne _ _ (by omega), updA_ne _ _ (by omega)]
/-- sets puts a NODE at the end of the table -/
theorem tbI_sets {lo n : Nat} {A : Nat → Nat → Int32} (hT : tbI lo n A) (hlo : lo ≤ n) (hn : n < 450) {k : Nat} {v x y : Int32} (hk : k < 10)
    (hs : (k < 2 ∧ x = m2 ∧ y = m2) ∨ (2 ≤ k ∧ k ≤ 6 ∧ ∃ a b : Nat, x = nI a ∧ lo ≤ a ∧ a < n ∧ y = nI b ∧ lo ≤ b ∧ b < n ∧ 1 + szN A a + szN A b ≤ 40) ∨ (7 ≤ k ∧ ∃ a : Nat, x = nI a ∧ lo ≤ a ∧ a < n ∧ y = m2 ∧ 1 + szN A a ≤ 40))
    (hv : (k = 0 ∨ k = 9 → ∃ w : Nat, w ≤ 9 ∧ v = nI w) ∧ (k = 1 → ∃ w : Nat, w ≤ 9999 ∧ v = nI w) ∧ (2 ≤ k → k ≤ 8 → v = m2)) : tbI lo (n + 1) (setsA A n (nI k) v x y) := by
  intro m hm1 hm2
  by_cases e : m = n
  · subst e
    have f0 : setsA A m (nI k) v x y 0 m = nI k := upd_self _ _ _
    have f1 : setsA A m (nI k) v x y 1 m = v := upd_self _ _ _
    have f2 : setsA A m (nI k) v x y 2 m = x := upd_self _ _ _
    have f3 : setsA A m (nI k) v x y 3 m = y := upd_self _ _ _
    have f4 : setsA A m (nI k) v x y 4 m = Int32.ofInt 1 + rdv (A 4) x + rdv (A 4) y := upd_self _ _ _
    have fs : ∀ a, a < m → szN (setsA A m (nI k) v x y) a = szN A a := fun a ha => by
      unfold szN
      rw [setsA_o (by omega)]
    have e1 : Int32.ofInt 1 = nI 1 := rfl
    have e0 : Int32.ofInt 0 = nI 0 := rfl
    rcases hs with ⟨hk2, rfl, rfl⟩ | ⟨k1, k2, a, b, rfl, la, ha, rfl, lb, hb, hz⟩ | ⟨k1, a, rfl, la, ha, rfl, hz⟩
    · refine ⟨k, 1, f0, hk, ?_, by decide, Or.inl ⟨hk2, f2, f3, rfl⟩, by rw [f1]; exact hv⟩
      rw [f4, rdv_m2]
      decide
    · refine ⟨k, 1 + szN A a + szN A b, f0, hk, ?_, hz, Or.inr (Or.inl ⟨k1, k2, a, b, f2, la, ha, f3, lb, hb, by rw [fs a ha, fs b hb]⟩), by rw [f1]; exact hv⟩
      rw [f4, rdv_nI (by omega), rdv_nI (by omega), (rN_sz (hT a la ha)).2.2, (rN_sz (hT b lb hb)).2.2, e1, nI_add, nI_add]
    · refine ⟨k, 1 + szN A a, f0, hk, ?_, hz, Or.inr (Or.inr ⟨k1, a, f2, la, ha, f3, by rw [fs a ha]⟩), by rw [f1]; exact hv⟩
      rw [f4, rdv_nI (by omega), rdv_m2, (rN_sz (hT a la ha)).2.2, e1, e0, nI_add, nI_add]
      rfl
  · exact rN_fr (hT m hm1 (by omega)) hm1 (fun r _ i hi1 hi2 => setsA_o (by omega))
theorem szN_sets {n : Nat} {A : Nat → Nat → Int32} {k v x y : Int32} {a : Nat} (ha : a ≠ n) : szN (setsA A n k v x y) a = szN A a := by
  unfold szN
  rw [setsA_o ha]
def blI (A : Nat → Nat → Int32) : Prop := (∀ i, A 6 i = 0 ∨ A 6 i = 1) ∧ (∀ i, A 7 i = 0 ∨ A 7 i = 1)
theorem blI_o {A : Nat → Nat → Int32} (h : blI A) {r : Nat} (g : Nat → Int32) (h6 : r ≠ 6) (h7 : r ≠ 7) : blI (updA A r g) := ⟨fun i => by rw [updA_ne _ _ (Ne.symm h6)]; exact h.1 i, fun i => by rw [updA_ne _ _ (Ne.symm h7)]; exact h.2 i⟩
