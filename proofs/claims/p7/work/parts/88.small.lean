/-- a table of NODES: KIND, v, x, y (places in the table), SIZE -/
abbrev zNd : Type := Nat × Int32 × Nat × Nat × Nat
def repT (b : Nat) (T : List zNd) (A : Nat → Nat → Int32) : Prop := ∀ (a k : Nat) (v : Int32) (x y z : Nat), T[a]? = some (k, v, x, y, z) →
  A 0 (b + a) = nI k ∧ A 1 (b + a) = v ∧ (2 ≤ k → A 2 (b + a) = nI (b + x)) ∧ (2 ≤ k → k ≤ 6 → A 3 (b + a) = nI (b + y)) ∧ A 4 (b + a) = nI z
theorem e120 : c8 120 = nI 120 := by decide +kernel
set_option maxHeartbeats 1000000 in
set_option maxRecDepth 20000 in
theorem mAdds (f : Nat → zC) (o : Nat → Int32) (A : Nat → Nat → Int32) (J : Nat → Nat → Int64) {n : Nat} {k v x y : Int32} (ho : o 23 = nI n) (hn : 120 + n < 450) (hx : 0 ≤ x → vp_in x 450) (hy : 0 ≤ y → vp_in y 450) : zK 1 zX7_adds [.ref 76, .int k, .int v, .int x, .int y] (wR f o A J) (fun r w' => r = none ∧ w' = wR f (upd o 23 (nI (n + 1))) (setsA A (120 + n) k v x y) J) := by
  have e1 : c8 120 + o 23 = nI (120 + n) := by rw [ho, e120, nI_add]
  have e2 : (c8 120 + o 23).toNatClampNeg = 120 + n := by rw [e1]; exact nI_clamp (by omega)
  have e3 : o 23 + Int32.ofInt 1 = nI (n + 1) := by rw [ho]; exact nI_1 n
  refine zK_of qX7_adds (by decide +kernel) rfl ?_
  iterate 9 (refine zv_step (bX7_adds 1) rfl rfl trivial ?_)
  refine zv_V5 (bX7_adds 1) rfl rfl rfl rfl rfl rfl rfl ⟨rfl, rfl, rfl⟩ ⟨by decide, by decide⟩ ⟨Nat.zero_le _, Nat.zero_le _⟩ (mSets f o A J (n := c8 120 + o 23) (by rw [e1]; exact vp_in_nI hn (by decide)) hx hy) ?_
  rintro _ _ ⟨rfl, rfl⟩
  iterate 6 (refine zv_step (bX7_adds 1) rfl rfl trivial ?_)
  refine zv_ret (bX7_adds 1) rfl rfl (Nat.zero_le _) (Nat.zero_le _) ⟨rfl, ?_⟩
  show wR f (upd o 23 (o 23 + Int32.ofInt 1)) (setsA A (c8 120 + o 23).toNatClampNeg k v x y) J = _
  rw [e2, e3]
def szT (t : List zNd) (a : Nat) : Nat := match t[a]? with
  | some e => e.2.2.2.2
  | none => 0
theorem szT_app {t l : List zNd} {a : Nat} (h : a < t.length) : szT (t ++ l) a = szT t a := by
  unfold szT
  rw [List.getElem?_append_left h]
theorem szT_last {t : List zNd} {e : zNd} : szT (t ++ [e]) t.length = e.2.2.2.2 := by
  unfold szT
  rw [List.getElem?_append_right (Nat.le_refl _), Nat.sub_self]
  rfl
/-- the rest of what the small trees owe -/
def gE (A0 A : Nat → Nat → Int32) (m : Nat) : Prop := tbI 120 (120 + m) A ∧ (∀ r i, i < 120 → A r i = A0 r i) ∧ (∀ n, 120 ≤ n → n < 120 + m → A 0 n = nI 1 → A 1 n = nI 1)
def gI (A0 : Nat → Nat → Int32) (t : List zNd) (A : Nat → Nat → Int32) (m : Nat) : Prop := m = t.length ∧ repT 120 t A ∧ (∀ a, szT t a < 1000) ∧ (∀ i, 6 ≤ i → A i = A0 i) ∧ gE A0 A m
theorem gI_sz {A0 A : Nat → Nat → Int32} {t : List zNd} {m a : Nat} (h : gI A0 t A m) (ha : a < t.length) : A 4 (120 + a) = nI (szT t a) := by
  obtain ⟨⟨k, v, x, y, z⟩, he⟩ : ∃ e, t[a]? = some e := ⟨t[a], List.getElem?_eq_getElem ha⟩
  rw [(h.2.1 a k v x y z he).2.2.2.2]
  unfold szT
  rw [he]
theorem gI_snoc {A0 A : Nat → Nat → Int32} {t : List zNd} {m : Nat} (h : gI A0 t A m) {k : Nat} {v x y : Int32} {xi yi z : Nat} (hx : 2 ≤ k → x = nI (120 + xi)) (hy : 2 ≤ k → k ≤ 6 → y = nI (120 + yi)) (hz : Int32.ofInt 1 + rdv (A 4) x + rdv (A 4) y = nI z) (hz9 : z < 1000) (hn : 120 + m < 450) (hk : k < 10) (hs : (k < 2 ∧ x = m2 ∧ y = m2) ∨ (2 ≤ k ∧ k ≤ 6 ∧ ∃ a b : Nat, x = nI a ∧ 120 ≤ a ∧ a < 120 + m ∧ y = nI b ∧ 120 ≤ b ∧ b < 120 + m ∧ 1 + szN A a + szN A b ≤ 40) ∨ (7 ≤ k ∧ ∃ a : Nat, x = nI a ∧ 120 ≤ a ∧ a < 120 + m ∧ y = m2 ∧ 1 + szN A a ≤ 40)) (hv : (k = 0 ∨ k = 9 → ∃ w : Nat, w ≤ 9 ∧ v = nI w) ∧ (k = 1 → ∃ w : Nat, w ≤ 9999 ∧ v = nI w) ∧ (2 ≤ k → k ≤ 8 → v = m2)) (hv1 : k = 1 → v = nI 1) : gI A0 (t ++ [(k, v, xi, yi, z)]) (setsA A (120 + m) (nI k) v x y) (m + 1) := by
  obtain ⟨rfl, hT, hb, hA, hE1, hE2, hE3⟩ := h
  refine ⟨by simp, ?_, fun a => ?_, fun i hi => ?_, tbI_sets hE1 (by omega) hn hk hs hv, fun r i hi => (setsA_o (by omega)).trans (hE2 r i hi), fun n h1 h2 => ?_⟩
  · intro a k' v' x' y' z' he
    show upd (A 0) (120 + t.length) (nI k) (120 + a) = nI k' ∧ upd (A 1) (120 + t.length) v (120 + a) = v' ∧ (2 ≤ k' → upd (A 2) (120 + t.length) x (120 + a) = nI (120 + x')) ∧ (2 ≤ k' → k' ≤ 6 → upd (A 3) (120 + t.length) y (120 + a) = nI (120 + y')) ∧ upd (A 4) (120 + t.length) (Int32.ofInt 1 + rdv (A 4) x + rdv (A 4) y) (120 + a) = nI z'
    by_cases ha : a < t.length
    · rw [List.getElem?_append_left ha] at he
      obtain ⟨r0, r1, r2, r3, r4⟩ := hT a k' v' x' y' z' he
      have ne : ¬ 120 + a = 120 + t.length := by omega
      unfold upd
      rw [if_neg ne, if_neg ne, if_neg ne, if_neg ne, if_neg ne]
      exact ⟨r0, r1, r2, r3, r4⟩
    · have hlt : a < (t ++ [(k, v, xi, yi, z)]).length := (List.getElem?_eq_some_iff.mp he).1
      rw [List.length_append, List.length_singleton] at hlt
      have e : a = t.length := by omega
      subst e
      rw [List.getElem?_append_right (Nat.le_refl _), Nat.sub_self] at he
      have he' : (k, v, xi, yi, z) = (k', v', x', y', z') := Option.some.inj he
      cases he'
      rw [upd_self, upd_self, upd_self, upd_self, upd_self]
      exact ⟨rfl, rfl, hx, hy, hz⟩
  · by_cases ha : a < t.length
    · rw [szT_app ha]; exact hb a
    · by_cases e : a = t.length
      · subst e; rw [szT_last]; exact hz9
      · unfold szT
        rw [List.getElem?_eq_none (by rw [List.length_append, List.length_singleton]; omega)]
        decide
  · show (if i = 5 then _ else if i = 4 then _ else if i = 3 then _ else if i = 2 then _ else if i = 1 then _ else if i = 0 then _ else A i) = A0 i
    rw [if_neg (by omega), if_neg (by omega), if_neg (by omega), if_neg (by omega), if_neg (by omega), if_neg (by omega)]
    exact hA i hi
  · by_cases e : n = 120 + t.length
    · subst e
      show upd (A 0) (120 + t.length) (nI k) (120 + t.length) = nI 1 → upd (A 1) (120 + t.length) v (120 + t.length) = nI 1
      rw [upd_self, upd_self]
      intro q
      exact hv1 ((nI_eq (by omega) (by decide)).mp q)
    · rw [setsA_o e, setsA_o e]
      exact hE3 n h1 (by omega)
theorem gI_szN {A0 A : Nat → Nat → Int32} {t : List zNd} {m a : Nat} (h : gI A0 t A m) (ha : a < t.length) : szN A (120 + a) = szT t a := by
  have hb := h.2.2.1 a
  unfold szN
  rw [gI_sz h ha, nI_clamp (by omega)]
def gPk (x y : Nat) : Nat → Nat → List zNd → List zNd
  | 0, _, t => t
  | c + 1, k, t => gPk x y c (k + 1) (t ++ [(k, c8 (-2), x, y, 1 + szT t x + szT t y)])
def gY (n x : Nat) : Nat → Nat → List zNd → List zNd
  | 0, _, t => t
  | c + 1, y, t => gY n x c (y + 1) (if szT t x + szT t y = n - 1 then gPk x y 5 2 t else t)
def gU (x : Nat) (t : List zNd) : List zNd := t ++ [(7, c8 (-2), x, 0, 1 + szT t x), (8, c8 (-2), x, 0, 1 + szT t x), (9, c8 9, x, 0, 1 + szT t x)]
def gX (n th : Nat) : Nat → Nat → List zNd → List zNd
  | 0, _, t => t
  | c + 1, x, t => gX n th c (x + 1) (gY n x th 0 (if szT t x = n - 1 then gU x t else t))
def grow (n : Nat) (t : List zNd) : List zNd := gX n t.length t.length 0 t
theorem gPk_len (x y : Nat) : ∀ (c k : Nat) (t : List zNd), t.length ≤ (gPk x y c k t).length
  | 0, _, t => Nat.le_refl _
  | c + 1, k, t => Nat.le_trans (by rw [List.length_append]; exact Nat.le_add_right _ _) (gPk_len x y c (k + 1) _)
theorem gY_len (n x : Nat) : ∀ (c y : Nat) (t : List zNd), t.length ≤ (gY n x c y t).length
  | 0, _, t => Nat.le_refl _
  | c + 1, y, t => by
    refine Nat.le_trans ?_ (gY_len n x c (y + 1) _)
    split
    · exact gPk_len x y 5 2 t
    · exact Nat.le_refl _
theorem gX_len (n th : Nat) : ∀ (c x : Nat) (t : List zNd), t.length ≤ (gX n th c x t).length
  | 0, _, t => Nat.le_refl _
  | c + 1, x, t => by
    refine Nat.le_trans ?_ (gX_len n th c (x + 1) _)
    refine Nat.le_trans ?_ (gY_len n x th 0 _)
    split
    · unfold gU; rw [List.length_append]; exact Nat.le_add_right _ _
    · exact Nat.le_refl _
theorem sz_eq {a b n : Nat} (ha : a < 1000) (hb : b < 1000) (hn : n < 10) (h1 : 1 ≤ n) : nI a + nI b = nI n - Int32.ofInt 1 ↔ a + b = n - 1 := by
  rw [nI_add, show nI n - Int32.ofInt 1 = nI (n - 1) by obtain ⟨k, rfl⟩ : ∃ k, n = k + 1 := ⟨n - 1, by omega⟩; exact nI_pred k]
  exact nI_eq (by omega) (by omega)
theorem sz_eq1 {a n : Nat} (ha : a < 1000) (hn : n < 10) (h1 : 1 ≤ n) : nI a = nI n - Int32.ofInt 1 ↔ a = n - 1 := by
  rw [show nI n - Int32.ofInt 1 = nI (n - 1) by obtain ⟨k, rfl⟩ : ∃ k, n = k + 1 := ⟨n - 1, by omega⟩; exact nI_pred k]
  exact nI_eq (by omega) (by omega)
theorem e6 : c8 6 = nI 6 := by decide +kernel
set_option maxHeartbeats 1000000 in
set_option maxRecDepth 20000 in
theorem kLoop (f : Nat → zC) (o : Nat → Int32) (A0 : Nat → Nat → Int32) (J : Nat → Nat → Int64) (n th : Nat) (hn : n < 10) (h1 : 1 ≤ n) {Q : Option Value → zW → Prop} {n0 : Nat} {x y : Nat} : ∀ (c k : Nat), k + c = 7 → ∀ {x5 : Int32} {t : List zNd} {A : Nat → Nat → Int32} {m : Nat}, x5 = nI k → gI A0 t A m → x < t.length → y < t.length → szT t x + szT t y = n - 1 → 2 ≤ k → (gPk x y c k t).length ≤ 280 → (∀ (A' : Nat → Nat → Int32) (m' : Nat), gI A0 (gPk x y c k t) A' m' → zV (zMo 2 zX7_grows) false n0 0 0 121 [(4, .int (nI (120 + y))), (3, .int (nI (120 + x))), (2, .int (nI th)), (0, .ref 76), (1, .int (nI n))] [] (wR f (upd o 23 (nI m')) A' J) Q) → zV (zMo 2 zX7_grows) false n0 0 0 77 [(5, .int x5), (4, .int (nI (120 + y))), (3, .int (nI (120 + x))), (2, .int (nI th)), (0, .ref 76), (1, .int (nI n))] [] (wR f (upd o 23 (nI m)) A J) Q := by
  intro c
  induction c with
  | zero =>
    intro k hk x5 t A m e5 hI hx hy hE h2 hl kk
    iterate 3 (refine zv_step (bX7_grows 2) rfl rfl trivial ?_)
    refine zv_ift (by rw [e5]; show c8 6 < nI k; rw [e6]; exact nI_lt (by omega) (by omega)) ?_
    exact zv_locals (fun q hq => List.mem_cons_of_mem _ hq) (kk A m hI)
  | succ c ih =>
    intro k hk x5 t A m e5 hI hx hy hE h2 hl kk
    have hml : m = t.length := hI.1
    have hle := gPk_len x y c (k + 1) (t ++ [(k, c8 (-2), x, y, 1 + szT t x + szT t y)])
    have hl' : (gPk x y c (k + 1) (t ++ [(k, c8 (-2), x, y, 1 + szT t x + szT t y)])).length ≤ 280 := hl
    rw [List.length_append, List.length_singleton] at hle
    have b1 := hI.2.2.1 x
    have b2 := hI.2.2.1 y
    iterate 3 (refine zv_step (bX7_grows 2) rfl rfl trivial ?_)
    refine zv_iff (by rw [e5]; show ¬ c8 6 < nI k; rw [e6]; exact nI_nlt (by omega) (by omega)) ?_
    iterate 3 (refine zv_step (bX7_grows 2) rfl rfl trivial ?_)
    refine zv_iale (bX7_grows 2) rfl rfl (vp_in_nI (n := 120 + x) (by omega) (by decide)) (show A 4 (nI (120 + x)).toNatClampNeg = nI (szT t x) by rw [nI_clamp (by omega)]; exact gI_sz hI hx) ?_
    iterate 3 (refine zv_step (bX7_grows 2) rfl rfl trivial ?_)
    refine zv_iale (bX7_grows 2) rfl rfl (vp_in_nI (n := 120 + y) (by omega) (by decide)) (show A 4 (nI (120 + y)).toNatClampNeg = nI (szT t y) by rw [nI_clamp (by omega)]; exact gI_sz hI hy) ?_
    iterate 5 (refine zv_step (bX7_grows 2) rfl rfl trivial ?_)
    refine zv_iff (by show ¬ ¬ nI (szT t x) + nI (szT t y) = nI n - Int32.ofInt 1; rw [sz_eq b1 b2 hn h1]; exact fun q => q hE) ?_
    iterate 5 (refine zv_step (bX7_grows 2) rfl rfl trivial ?_)
    refine zv_V4 (bX7_grows 2) rfl rfl rfl rfl rfl rfl rfl ⟨rfl, rfl, rfl⟩ ⟨by decide, by decide⟩ ⟨Nat.zero_le _, Nat.zero_le _⟩ (mAdds f (upd o 23 (nI m)) A J (n := m) rfl (by omega) (fun _ => vp_in_nI (by omega) (by decide)) (fun _ => vp_in_nI (by omega) (by decide))) ?_
    rintro _ _ ⟨rfl, rfl⟩
    iterate 2 (refine zv_step (bX7_grows 2) rfl rfl trivial ?_)
    refine ih (k + 1) (by omega) (by rw [e5]; exact nI_1 k) (t := t ++ [(k, c8 (-2), x, y, 1 + szT t x + szT t y)]) (A := setsA A (120 + m) x5 (c8 (-2)) (nI (120 + x)) (nI (120 + y))) (m := m + 1) ?_ (by rw [List.length_append]; omega) (by rw [List.length_append]; omega) (by rw [szT_app hx, szT_app hy]; exact hE) (by omega) hl' kk
    rw [e5]
    exact gI_snoc hI (fun _ => rfl) (fun _ _ => rfl) (by rw [rdv_nI (by omega), rdv_nI (by omega), gI_sz hI hx, gI_sz hI hy]; show nI 1 + nI (szT t x) + nI (szT t y) = _; rw [nI_add, nI_add]) (by omega) (by omega) (by omega) (Or.inr (Or.inl ⟨h2, by omega, 120 + x, 120 + y, rfl, by omega, by omega, rfl, by omega, by omega, by rw [gI_szN hI hx, gI_szN hI hy]; omega⟩)) ⟨fun h => absurd h (by omega), fun h => absurd h (by omega), fun _ _ => rfl⟩ (fun h => absurd h (by omega))
set_option maxHeartbeats 1000000 in
set_option maxRecDepth 20000 in
theorem yLoop (f : Nat → zC) (o : Nat → Int32) (A0 : Nat → Nat → Int32) (J : Nat → Nat → Int64) (n th : Nat) (hn : n < 10) (h1 : 1 ≤ n) {Q : Option Value → zW → Prop} {n0 : Nat} {x : Nat} : ∀ (c y : Nat), y + c = th → ∀ {x4 : Int32} {t : List zNd} {A : Nat → Nat → Int32} {m : Nat}, x4 = nI (120 + y) → gI A0 t A m → x < t.length → th ≤ t.length → (gY n x c y t).length ≤ 280 → (∀ (A' : Nat → Nat → Int32) (m' : Nat), gI A0 (gY n x c y t) A' m' → zV (zMo 2 zX7_grows) false n0 0 0 127 [(3, .int (nI (120 + x))), (2, .int (nI th)), (0, .ref 76), (1, .int (nI n))] [] (wR f (upd o 23 (nI m')) A' J) Q) → zV (zMo 2 zX7_grows) false n0 0 0 65 [(4, .int x4), (3, .int (nI (120 + x))), (2, .int (nI th)), (0, .ref 76), (1, .int (nI n))] [] (wR f (upd o 23 (nI m)) A J) Q := by
  intro c
  induction c with
  | zero =>
    intro y hy0 x4 t A m e4 hI hx hth hl kk
    iterate 5 (refine zv_step (bX7_grows 2) rfl rfl trivial ?_)
    refine zv_ift (by rw [e4]; show c8 120 + nI th ≤ nI (120 + y); rw [e120, nI_add]; have := hI.1; exact nI_le (by omega) (by have := (gY_len n x 0 y t); omega)) ?_
    exact zv_locals (fun q hq => List.mem_cons_of_mem _ hq) (kk A m hI)
  | succ c ih =>
    intro y hy0 x4 t A m e4 hI hx hth hl kk
    have hml : m = t.length := hI.1
    have hle0 := gY_len n x (c + 1) y t
    have hy : y < t.length := by omega
    have b1 := hI.2.2.1 x
    have b2 := hI.2.2.1 y
    subst e4
    iterate 5 (refine zv_step (bX7_grows 2) rfl rfl trivial ?_)
    refine zv_iff (by show ¬ c8 120 + nI th ≤ nI (120 + y); rw [e120, nI_add]; exact nI_ge (by omega) (by omega)) ?_
    iterate 2 (refine zv_step (bX7_grows 2) rfl rfl trivial ?_)
    by_cases hE : szT t x + szT t y = n - 1
    · have hg : gY n x (c + 1) y t = gY n x c (y + 1) (gPk x y 5 2 t) := by
        show gY n x c (y + 1) (if szT t x + szT t y = n - 1 then gPk x y 5 2 t else t) = _
        rw [if_pos hE]
      rw [hg] at hl kk
      have hle := gY_len n x c (y + 1) (gPk x y 5 2 t)
      have hle2 := gPk_len x y 5 2 t
      refine kLoop f o A0 J n th hn h1 (x := x) (y := y) 5 2 rfl rfl hI hx hy hE (by omega) (by omega) (fun A' m' hI' => ?_)
      iterate 2 (refine zv_step (bX7_grows 2) rfl rfl trivial ?_)
      exact ih (y + 1) (by omega) (nI_1 (120 + y)) hI' (by omega) (by omega) hl kk
    · have hg : gY n x (c + 1) y t = gY n x c (y + 1) t := by
        show gY n x c (y + 1) (if szT t x + szT t y = n - 1 then gPk x y 5 2 t else t) = _
        rw [if_neg hE]
      rw [hg] at hl kk
      have hle := gY_len n x c (y + 1) t
      iterate 3 (refine zv_step (bX7_grows 2) rfl rfl trivial ?_)
      refine zv_iff (by decide) ?_
      iterate 3 (refine zv_step (bX7_grows 2) rfl rfl trivial ?_)
      refine zv_iale (bX7_grows 2) rfl rfl (vp_in_nI (n := 120 + x) (by omega) (by decide)) (show A 4 (nI (120 + x)).toNatClampNeg = nI (szT t x) by rw [nI_clamp (by omega)]; exact gI_sz hI hx) ?_
      iterate 3 (refine zv_step (bX7_grows 2) rfl rfl trivial ?_)
      refine zv_iale (bX7_grows 2) rfl rfl (vp_in_nI (n := 120 + y) (by omega) (by decide)) (show A 4 (nI (120 + y)).toNatClampNeg = nI (szT t y) by rw [nI_clamp (by omega)]; exact gI_sz hI hy) ?_
      iterate 5 (refine zv_step (bX7_grows 2) rfl rfl trivial ?_)
      refine zv_ift (by show ¬ nI (szT t x) + nI (szT t y) = nI n - Int32.ofInt 1; rw [sz_eq b1 b2 hn h1]; exact hE) ?_
      iterate 2 (refine zv_step (bX7_grows 2) rfl rfl trivial ?_)
      exact zv_locals (l' := [(4, .int (nI (120 + y) + Int32.ofInt 1)), (3, .int (nI (120 + x))), (2, .int (nI th)), (0, .ref 76), (1, .int (nI n))]) (by simp [zset1, Value.category]) (ih (y + 1) (by omega) (nI_1 (120 + y)) hI hx hth hl kk)
set_option maxHeartbeats 1000000 in
set_option maxRecDepth 20000 in
theorem xLoop (f : Nat → zC) (o : Nat → Int32) (A0 : Nat → Nat → Int32) (J : Nat → Nat → Int64) (n th : Nat) (hn : n < 10) (h1 : 1 ≤ n) {Q : Option Value → zW → Prop} {n0 : Nat} : ∀ (c x : Nat), x + c = th → ∀ {x3 : Int32} {t : List zNd} {A : Nat → Nat → Int32} {m : Nat}, x3 = nI (120 + x) → gI A0 t A m → th ≤ t.length → (gX n th c x t).length ≤ 280 → (∀ (A' : Nat → Nat → Int32) (m' : Nat), gI A0 (gX n th c x t) A' m' → Q none (wR f (upd o 23 (nI m')) A' J)) → zV (zMo 2 zX7_grows) false n0 0 0 8 [(3, .int x3), (2, .int (nI th)), (0, .ref 76), (1, .int (nI n))] [] (wR f (upd o 23 (nI m)) A J) Q := by
  intro c
  induction c with
  | zero =>
    intro x hx0 x3 t A m e3 hI hth hl kk
    iterate 5 (refine zv_step (bX7_grows 2) rfl rfl trivial ?_)
    refine zv_ift (by rw [e3]; show c8 120 + nI th ≤ nI (120 + x); rw [e120, nI_add]; have := hI.1; exact nI_le (by omega) (by have := (gX_len n th 0 x t); omega)) ?_
    exact zv_ret (bX7_grows 2) rfl rfl (Nat.zero_le _) (Nat.zero_le _) (kk A m hI)
  | succ c ih =>
    intro x hx0 x3 t A m e3 hI hth hl kk
    have hml : m = t.length := hI.1
    have hle0 := gX_len n th (c + 1) x t
    have hx : x < t.length := by omega
    have b1 := hI.2.2.1 x
    subst e3
    iterate 5 (refine zv_step (bX7_grows 2) rfl rfl trivial ?_)
    refine zv_iff (by show ¬ c8 120 + nI th ≤ nI (120 + x); rw [e120, nI_add]; exact nI_ge (by omega) (by omega)) ?_
    iterate 3 (refine zv_step (bX7_grows 2) rfl rfl trivial ?_)
    refine zv_iale (bX7_grows 2) rfl rfl (vp_in_nI (n := 120 + x) (by omega) (by decide)) (show A 4 (nI (120 + x)).toNatClampNeg = nI (szT t x) by rw [nI_clamp (by omega)]; exact gI_sz hI hx) ?_
    iterate 4 (refine zv_step (bX7_grows 2) rfl rfl trivial ?_)
    by_cases hE : szT t x = n - 1
    · have hg : gX n th (c + 1) x t = gX n th c (x + 1) (gY n x th 0 (gU x t)) := by
        show gX n th c (x + 1) (gY n x th 0 (if szT t x = n - 1 then gU x t else t)) = _
        rw [if_pos hE]
      rw [hg] at hl kk
      have hle := gX_len n th c (x + 1) (gY n x th 0 (gU x t))
      have hle2 := gY_len n x th 0 (gU x t)
      have hgu : (gU x t).length = t.length + 3 := by unfold gU; rw [List.length_append]; rfl
      refine zv_iff (by show ¬ ¬ nI (szT t x) = nI n - Int32.ofInt 1; rw [sz_eq1 b1 hn h1]; exact fun q => q hE) ?_
      iterate 5 (refine zv_step (bX7_grows 2) rfl rfl trivial ?_)
      refine zv_V4 (bX7_grows 2) rfl rfl rfl rfl rfl rfl rfl ⟨rfl, rfl, rfl⟩ ⟨by decide, by decide⟩ ⟨Nat.zero_le _, Nat.zero_le _⟩ (mAdds f (upd o 23 (nI m)) A J (n := m) rfl (by omega) (fun _ => vp_in_nI (by omega) (by decide)) vpm2) ?_
      rintro _ _ ⟨rfl, rfl⟩
      have I1 : gI A0 (t ++ [(7, c8 (-2), x, 0, 1 + szT t x)]) (setsA A (120 + m) (c8 7) (c8 (-2)) (nI (120 + x)) (c8 (-2))) (m + 1) :=
        gI_snoc (k := 7) hI (fun _ => rfl) (fun _ h => absurd h (by decide)) (by rw [rdv_nI (by omega), rdv_m2, gI_sz hI hx]; show nI 1 + nI (szT t x) + nI 0 = _; rw [nI_add, nI_add, Nat.add_zero]) (by omega) (by omega) (by decide) (Or.inr (Or.inr ⟨by decide, 120 + x, rfl, by omega, by omega, rfl, by rw [gI_szN hI hx]; omega⟩)) ⟨fun h => absurd h (by decide), fun h => absurd h (by decide), fun _ _ => rfl⟩ (fun h => absurd h (by decide))
      have hx1 : x < (t ++ [(7, c8 (-2), x, 0, 1 + szT t x)] : List zNd).length := by rw [List.length_append]; omega
      have s1 : szT (t ++ [(7, c8 (-2), x, 0, 1 + szT t x)]) x = szT t x := szT_app hx
      iterate 5 (refine zv_step (bX7_grows 2) rfl rfl trivial ?_)
      refine zv_V4 (bX7_grows 2) rfl rfl rfl rfl rfl rfl rfl ⟨rfl, rfl, rfl⟩ ⟨by decide, by decide⟩ ⟨Nat.zero_le _, Nat.zero_le _⟩ (mAdds f (upd o 23 (nI (m + 1))) (setsA A (120 + m) (c8 7) (c8 (-2)) (nI (120 + x)) (c8 (-2))) J (n := m + 1) rfl (by omega) (fun _ => vp_in_nI (by omega) (by decide)) vpm2) ?_
      rintro _ _ ⟨rfl, rfl⟩
      have I2 := gI_snoc (k := 8) (v := c8 (-2)) (x := nI (120 + x)) (y := c8 (-2)) (xi := x) (yi := 0) (z := 1 + szT t x) I1 (fun _ => rfl) (fun _ h => absurd h (by decide)) (by rw [rdv_nI (by omega), rdv_m2, gI_sz I1 hx1, s1]; show nI 1 + nI (szT t x) + nI 0 = _; rw [nI_add, nI_add, Nat.add_zero]) (by omega) (by omega) (by decide) (Or.inr (Or.inr ⟨by decide, 120 + x, rfl, by omega, by omega, rfl, by rw [gI_szN I1 hx1, s1]; omega⟩)) ⟨fun h => absurd h (by decide), fun h => absurd h (by decide), fun _ _ => rfl⟩ (fun h => absurd h (by decide))
      have hx2 : x < (t ++ [(7, c8 (-2), x, 0, 1 + szT t x)] ++ [(8, c8 (-2), x, 0, 1 + szT t x)] : List zNd).length := by rw [List.length_append]; omega
      have s2 : szT (t ++ [(7, c8 (-2), x, 0, 1 + szT t x)] ++ [(8, c8 (-2), x, 0, 1 + szT t x)]) x = szT t x := (szT_app hx1).trans s1
      iterate 5 (refine zv_step (bX7_grows 2) rfl rfl trivial ?_)
      refine zv_V4 (bX7_grows 2) rfl rfl rfl rfl rfl rfl rfl ⟨rfl, rfl, rfl⟩ ⟨by decide, by decide⟩ ⟨Nat.zero_le _, Nat.zero_le _⟩ (mAdds f (upd o 23 (nI (m + 1 + 1))) (setsA (setsA A (120 + m) (c8 7) (c8 (-2)) (nI (120 + x)) (c8 (-2))) (120 + (m + 1)) (nI 8) (c8 (-2)) (nI (120 + x)) (c8 (-2))) J (n := m + 1 + 1) rfl (by omega) (fun _ => vp_in_nI (by omega) (by decide)) vpm2) ?_
      rintro _ _ ⟨rfl, rfl⟩
      have I3 := gI_snoc (k := 9) (v := c8 9) (x := nI (120 + x)) (y := c8 (-2)) (xi := x) (yi := 0) (z := 1 + szT t x) I2 (fun _ => rfl) (fun _ h => absurd h (by decide)) (by rw [rdv_nI (by omega), rdv_m2, gI_sz I2 hx2, s2]; show nI 1 + nI (szT t x) + nI 0 = _; rw [nI_add, nI_add, Nat.add_zero]) (by omega) (by omega) (by decide) (Or.inr (Or.inr ⟨by decide, 120 + x, rfl, by omega, by omega, rfl, by rw [gI_szN I2 hx2, s2]; omega⟩)) ⟨fun _ => ⟨9, by decide, rfl⟩, fun h => absurd h (by decide), fun _ h => absurd h (by decide)⟩ (fun h => absurd h (by decide))
      have eU : t ++ [(7, c8 (-2), x, 0, 1 + szT t x)] ++ [(8, c8 (-2), x, 0, 1 + szT t x)] ++ [(9, c8 9, x, 0, 1 + szT t x)] = gU x t := by
        unfold gU
        rw [List.append_assoc, List.append_assoc]
        rfl
      rw [eU] at I3
      iterate 2 (refine zv_step (bX7_grows 2) rfl rfl trivial ?_)
      refine yLoop f o A0 J n th hn h1 (x := x) th 0 (by omega) e120 I3 (by omega) (by omega) (by omega) (fun A' m' hI' => ?_)
      iterate 2 (refine zv_step (bX7_grows 2) rfl rfl trivial ?_)
      exact ih (x + 1) (by omega) (nI_1 (120 + x)) hI' (by omega) hl kk
    · have hg : gX n th (c + 1) x t = gX n th c (x + 1) (gY n x th 0 t) := by
        show gX n th c (x + 1) (gY n x th 0 (if szT t x = n - 1 then gU x t else t)) = _
        rw [if_neg hE]
      rw [hg] at hl kk
      have hle := gX_len n th c (x + 1) (gY n x th 0 t)
      have hle2 := gY_len n x th 0 t
      refine zv_ift (by show ¬ nI (szT t x) = nI n - Int32.ofInt 1; rw [sz_eq1 b1 hn h1]; exact hE) ?_
      iterate 2 (refine zv_step (bX7_grows 2) rfl rfl trivial ?_)
      refine yLoop f o A0 J n th hn h1 (x := x) th 0 (by omega) e120 hI (by omega) (by omega) (by omega) (fun A' m' hI' => ?_)
      iterate 2 (refine zv_step (bX7_grows 2) rfl rfl trivial ?_)
      exact ih (x + 1) (by omega) (nI_1 (120 + x)) hI' (by omega) hl kk
set_option maxHeartbeats 1000000 in
set_option maxRecDepth 20000 in
theorem mGrows (f : Nat → zC) (o : Nat → Int32) (A0 : Nat → Nat → Int32) (J : Nat → Nat → Int64) (n : Nat) (hn : n < 10) (h1 : 1 ≤ n) {t : List zNd} {A : Nat → Nat → Int32} {m : Nat} (hI : gI A0 t A m) (hl : (grow n t).length ≤ 280) : zK 2 zX7_grows [.ref 76, .int (nI n)] (wR f (upd o 23 (nI m)) A J) (fun r w' => r = none ∧ ∃ (A' : Nat → Nat → Int32) (m' : Nat), w' = wR f (upd o 23 (nI m')) A' J ∧ gI A0 (grow n t) A' m') := by
  obtain ⟨rfl, hI'⟩ : m = t.length ∧ gI A0 t A t.length := ⟨hI.1, hI.1 ▸ hI⟩
  refine zK_of qX7_grows (by decide +kernel) rfl ?_
  iterate 5 (refine zv_step (bX7_grows 2) rfl rfl trivial ?_)
  exact xLoop f o A0 J n t.length hn h1 t.length 0 (by omega) e120 hI' (Nat.le_refl _) hl (fun A' m' h => ⟨rfl, A', m', rfl, h⟩)
def T4 : List zNd := [(0, 0, 0, 0, 1), (1, 1, 0, 0, 1), (7, (-2), 0, 0, 2), (8, (-2), 0, 0, 2), (9, 9, 0, 0, 2), (7, (-2), 1, 0, 2), (8, (-2), 1, 0, 2), (9, 9, 1, 0, 2), (2, (-2), 0, 0, 3), (3, (-2), 0, 0, 3), (4, (-2), 0, 0, 3), (5, (-2), 0, 0, 3), (6, (-2), 0, 0, 3), (2, (-2), 0, 1, 3), (3, (-2), 0, 1, 3), (4, (-2), 0, 1, 3), (5, (-2), 0, 1, 3), (6, (-2), 0, 1, 3), (2, (-2), 1, 0, 3), (3, (-2), 1, 0, 3), (4, (-2), 1, 0, 3), (5, (-2), 1, 0, 3), (6, (-2), 1, 0, 3), (2, (-2), 1, 1, 3), (3, (-2), 1, 1, 3), (4, (-2), 1, 1, 3), (5, (-2), 1, 1, 3), (6, (-2), 1, 1, 3), (7, (-2), 2, 0, 3), (8, (-2), 2, 0, 3), (9, 9, 2, 0, 3), (7, (-2), 3, 0, 3), (8, (-2), 3, 0, 3), (9, 9, 3, 0, 3), (7, (-2), 4, 0, 3), (8, (-2), 4, 0, 3), (9, 9, 4, 0, 3), (7, (-2), 5, 0, 3), (8, (-2), 5, 0, 3), (9, 9, 5, 0, 3), (7, (-2), 6, 0, 3), (8, (-2), 6, 0, 3), (9, 9, 6, 0, 3), (7, (-2), 7, 0, 3), (8, (-2), 7, 0, 3), (9, 9, 7, 0, 3), (2, (-2), 0, 2, 4), (3, (-2), 0, 2, 4), (4, (-2), 0, 2, 4), (5, (-2), 0, 2, 4), (6, (-2), 0, 2, 4), (2, (-2), 0, 3, 4), (3, (-2), 0, 3, 4), (4, (-2), 0, 3, 4), (5, (-2), 0, 3, 4), (6, (-2), 0, 3, 4), (2, (-2), 0, 4, 4), (3, (-2), 0, 4, 4), (4, (-2), 0, 4, 4), (5, (-2), 0, 4, 4), (6, (-2), 0, 4, 4), (2, (-2), 0, 5, 4), (3, (-2), 0, 5, 4), (4, (-2), 0, 5, 4), (5, (-2), 0, 5, 4), (6, (-2), 0, 5, 4), (2, (-2), 0, 6, 4), (3, (-2), 0, 6, 4), (4, (-2), 0, 6, 4), (5, (-2), 0, 6, 4), (6, (-2), 0, 6, 4), (2, (-2), 0, 7, 4), (3, (-2), 0, 7, 4), (4, (-2), 0, 7, 4), (5, (-2), 0, 7, 4), (6, (-2), 0, 7, 4), (2, (-2), 1, 2, 4), (3, (-2), 1, 2, 4), (4, (-2), 1, 2, 4), (5, (-2), 1, 2, 4), (6, (-2), 1, 2, 4), (2, (-2), 1, 3, 4), (3, (-2), 1, 3, 4), (4, (-2), 1, 3, 4), (5, (-2), 1, 3, 4), (6, (-2), 1, 3, 4), (2, (-2), 1, 4, 4), (3, (-2), 1, 4, 4), (4, (-2), 1, 4, 4), (5, (-2), 1, 4, 4), (6, (-2), 1, 4, 4), (2, (-2), 1, 5, 4), (3, (-2), 1, 5, 4), (4, (-2), 1, 5, 4), (5, (-2), 1, 5, 4), (6, (-2), 1, 5, 4), (2, (-2), 1, 6, 4), (3, (-2), 1, 6, 4), (4, (-2), 1, 6, 4), (5, (-2), 1, 6, 4), (6, (-2), 1, 6, 4), (2, (-2), 1, 7, 4), (3, (-2), 1, 7, 4), (4, (-2), 1, 7, 4), (5, (-2), 1, 7, 4), (6, (-2), 1, 7, 4), (2, (-2), 2, 0, 4), (3, (-2), 2, 0, 4), (4, (-2), 2, 0, 4), (5, (-2), 2, 0, 4), (6, (-2), 2, 0, 4), (2, (-2), 2, 1, 4), (3, (-2), 2, 1, 4), (4, (-2), 2, 1, 4), (5, (-2), 2, 1, 4), (6, (-2), 2, 1, 4), (2, (-2), 3, 0, 4), (3, (-2), 3, 0, 4), (4, (-2), 3, 0, 4), (5, (-2), 3, 0, 4), (6, (-2), 3, 0, 4), (2, (-2), 3, 1, 4), (3, (-2), 3, 1, 4), (4, (-2), 3, 1, 4), (5, (-2), 3, 1, 4), (6, (-2), 3, 1, 4), (2, (-2), 4, 0, 4), (3, (-2), 4, 0, 4), (4, (-2), 4, 0, 4), (5, (-2), 4, 0, 4), (6, (-2), 4, 0, 4), (2, (-2), 4, 1, 4), (3, (-2), 4, 1, 4), (4, (-2), 4, 1, 4), (5, (-2), 4, 1, 4), (6, (-2), 4, 1, 4), (2, (-2), 5, 0, 4), (3, (-2), 5, 0, 4), (4, (-2), 5, 0, 4), (5, (-2), 5, 0, 4), (6, (-2), 5, 0, 4), (2, (-2), 5, 1, 4), (3, (-2), 5, 1, 4), (4, (-2), 5, 1, 4), (5, (-2), 5, 1, 4), (6, (-2), 5, 1, 4), (2, (-2), 6, 0, 4), (3, (-2), 6, 0, 4), (4, (-2), 6, 0, 4), (5, (-2), 6, 0, 4), (6, (-2), 6, 0, 4), (2, (-2), 6, 1, 4), (3, (-2), 6, 1, 4), (4, (-2), 6, 1, 4), (5, (-2), 6, 1, 4), (6, (-2), 6, 1, 4), (2, (-2), 7, 0, 4), (3, (-2), 7, 0, 4), (4, (-2), 7, 0, 4), (5, (-2), 7, 0, 4), (6, (-2), 7, 0, 4), (2, (-2), 7, 1, 4), (3, (-2), 7, 1, 4), (4, (-2), 7, 1, 4), (5, (-2), 7, 1, 4), (6, (-2), 7, 1, 4), (7, (-2), 8, 0, 4), (8, (-2), 8, 0, 4), (9, 9, 8, 0, 4), (7, (-2), 9, 0, 4), (8, (-2), 9, 0, 4), (9, 9, 9, 0, 4), (7, (-2), 10, 0, 4), (8, (-2), 10, 0, 4), (9, 9, 10, 0, 4), (7, (-2), 11, 0, 4), (8, (-2), 11, 0, 4), (9, 9, 11, 0, 4), (7, (-2), 12, 0, 4), (8, (-2), 12, 0, 4), (9, 9, 12, 0, 4), (7, (-2), 13, 0, 4), (8, (-2), 13, 0, 4), (9, 9, 13, 0, 4), (7, (-2), 14, 0, 4), (8, (-2), 14, 0, 4), (9, 9, 14, 0, 4), (7, (-2), 15, 0, 4), (8, (-2), 15, 0, 4), (9, 9, 15, 0, 4), (7, (-2), 16, 0, 4), (8, (-2), 16, 0, 4), (9, 9, 16, 0, 4), (7, (-2), 17, 0, 4), (8, (-2), 17, 0, 4), (9, 9, 17, 0, 4), (7, (-2), 18, 0, 4), (8, (-2), 18, 0, 4), (9, 9, 18, 0, 4), (7, (-2), 19, 0, 4), (8, (-2), 19, 0, 4), (9, 9, 19, 0, 4), (7, (-2), 20, 0, 4), (8, (-2), 20, 0, 4), (9, 9, 20, 0, 4), (7, (-2), 21, 0, 4), (8, (-2), 21, 0, 4), (9, 9, 21, 0, 4), (7, (-2), 22, 0, 4), (8, (-2), 22, 0, 4), (9, 9, 22, 0, 4), (7, (-2), 23, 0, 4), (8, (-2), 23, 0, 4), (9, 9, 23, 0, 4), (7, (-2), 24, 0, 4), (8, (-2), 24, 0, 4), (9, 9, 24, 0, 4), (7, (-2), 25, 0, 4), (8, (-2), 25, 0, 4), (9, 9, 25, 0, 4), (7, (-2), 26, 0, 4), (8, (-2), 26, 0, 4), (9, 9, 26, 0, 4), (7, (-2), 27, 0, 4), (8, (-2), 27, 0, 4), (9, 9, 27, 0, 4), (7, (-2), 28, 0, 4), (8, (-2), 28, 0, 4), (9, 9, 28, 0, 4), (7, (-2), 29, 0, 4), (8, (-2), 29, 0, 4), (9, 9, 29, 0, 4), (7, (-2), 30, 0, 4), (8, (-2), 30, 0, 4), (9, 9, 30, 0, 4), (7, (-2), 31, 0, 4), (8, (-2), 31, 0, 4), (9, 9, 31, 0, 4), (7, (-2), 32, 0, 4), (8, (-2), 32, 0, 4), (9, 9, 32, 0, 4), (7, (-2), 33, 0, 4), (8, (-2), 33, 0, 4), (9, 9, 33, 0, 4), (7, (-2), 34, 0, 4), (8, (-2), 34, 0, 4), (9, 9, 34, 0, 4), (7, (-2), 35, 0, 4), (8, (-2), 35, 0, 4), (9, 9, 35, 0, 4), (7, (-2), 36, 0, 4), (8, (-2), 36, 0, 4), (9, 9, 36, 0, 4), (7, (-2), 37, 0, 4), (8, (-2), 37, 0, 4), (9, 9, 37, 0, 4), (7, (-2), 38, 0, 4), (8, (-2), 38, 0, 4), (9, 9, 38, 0, 4), (7, (-2), 39, 0, 4), (8, (-2), 39, 0, 4), (9, 9, 39, 0, 4), (7, (-2), 40, 0, 4), (8, (-2), 40, 0, 4), (9, 9, 40, 0, 4), (7, (-2), 41, 0, 4), (8, (-2), 41, 0, 4), (9, 9, 41, 0, 4), (7, (-2), 42, 0, 4), (8, (-2), 42, 0, 4), (9, 9, 42, 0, 4), (7, (-2), 43, 0, 4), (8, (-2), 43, 0, 4), (9, 9, 43, 0, 4), (7, (-2), 44, 0, 4), (8, (-2), 44, 0, 4), (9, 9, 44, 0, 4), (7, (-2), 45, 0, 4), (8, (-2), 45, 0, 4), (9, 9, 45, 0, 4)]
def tabs : Nat → List zNd
  | 0 => [(0, Int32.ofInt 0, 0, 0, 1), (1, Int32.ofInt 1, 0, 0, 1)]
  | j + 1 => grow (j + 2) (tabs j)
def lnT (j : Nat) : Nat := [2, 8, 46, 280].getD j 0
set_option maxRecDepth 100000 in
theorem tab0 : tabs 0 = T4.take 2 := by decide +kernel
set_option maxRecDepth 100000 in
theorem tab1 : tabs 1 = T4.take 8 := by decide +kernel
set_option maxRecDepth 100000 in
theorem tab2 : tabs 2 = T4.take 46 := by decide +kernel
set_option maxRecDepth 100000 in
theorem tab3 : tabs 3 = T4.take 280 := by decide +kernel
theorem tabs_eq {j : Nat} (h : j < 4) : tabs j = T4.take (lnT j) := by
  match j, h with
  | 0, _ => exact tab0
  | 1, _ => exact tab1
  | 2, _ => exact tab2
  | 3, _ => exact tab3
theorem T4_len : T4.length = 280 := by decide +kernel
theorem tabs_len {j : Nat} (h : j < 4) : (tabs j).length = lnT j := by
  rw [tabs_eq h, List.length_take, T4_len]
  match j, h with
  | 0, _ => decide
  | 1, _ => decide
  | 2, _ => decide
  | 3, _ => decide
theorem lnT_le {j : Nat} (h : j < 4) : lnT j ≤ 280 := by
  match j, h with
  | 0, _ => decide
  | 1, _ => decide
  | 2, _ => decide
  | 3, _ => decide
theorem tabs_pre {j : Nat} (h : j < 4) {a : Nat} {e : zNd} (he : (tabs j)[a]? = some e) : T4[a]? = some e := by
  rw [tabs_eq h, List.getElem?_take] at he
  split at he
  · exact he
  · cases he
theorem T4_sz : ∀ e ∈ T4, e.2.2.2.2 ≤ 4 := by decide +kernel
theorem tabs_sz {j : Nat} (h : j < 4) (a : Nat) : szT (tabs j) a ≤ 4 := by
  unfold szT
  split
  · rename_i e he
    exact T4_sz _ (List.mem_of_getElem? (tabs_pre h he))
  · decide
