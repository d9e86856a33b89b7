/-- what holds at the head of the loops: the table, the rows of words up to a -/
def cI (T : List zNd) (K7 : Nat → Int32) (Ws : Nat → List Int32) (a : Nat) (o : Nat → Int32) (A : Nat → Nat → Int32) : Prop := o 23 = nI T.length ∧ repT 120 T A ∧ A 7 = K7 ∧ ∀ j, j < a → rowW A j (Ws j)
theorem clampS {n : Nat} (h : n < 2 ^ 31) (g : Nat → Int32) (x : Int32) : upd g (nI n).toNatClampNeg x = upd g n x := by rw [nI_clamp h]
set_option maxHeartbeats 1000000 in
set_option maxRecDepth 20000 in
theorem copyL (f : Nat → zC) (J : Nat → Nat → Int64) {T : List zNd} {K7 : Nat → Int32} {Ws : Nat → List Int32} {s : Nat} {p2 : Int32} (hTl : T.length ≤ 280) (hWl : ∀ a, a < T.length → (Ws a).length ≤ 20) {Q : Option Value → zW → Prop} {n0 : Nat} {a : Nat} (ha : a < T.length) (kk : ∀ (o : Nat → Int32) (A : Nat → Nat → Int32), cI T K7 Ws (a + 1) o A → zV (zMo 290 zX7_clear) false n0 0 0 130 [(3, .int (nI a)), (0, .ref 76), (1, .int (nI s)), (2, .int p2)] [] (wR f o A J) Q) : ∀ (c i : Nat), i + c = (Ws a).length → ∀ {x4 : Int32} {o : Nat → Int32} {A : Nat → Nat → Int32}, x4 = nI i → cI T K7 Ws a o A → o 18 = nI (Ws a).length → A 17 a = nI (Ws a).length → (∀ (j : Nat) (v : Int32), (Ws a)[j]? = some v → A 14 j = v) → (∀ (j : Nat) (v : Int32), j < i → (Ws a)[j]? = some v → A 16 (20 * a + j) = v) → zV (zMo 290 zX7_clear) false n0 0 0 96 [(4, .int x4), (3, .int (nI a)), (0, .ref 76), (1, .int (nI s)), (2, .int p2)] [] (wR f o A J) Q := by
  have hla := hWl a ha
  intro c
  induction c with
  | zero =>
    intro i hi x4 o A e4 hI h18 h17 h14 h16
    iterate 4 (refine zv_step (bX7_clear 290) rfl rfl trivial ?_)
    refine zv_ift (by rw [e4]; show o 18 ≤ nI i; rw [h18]; exact nI_le (by omega) (by omega)) ?_
    refine zv_locals (fun q hq => List.mem_cons_of_mem _ hq) (kk o A ⟨hI.1, hI.2.1, hI.2.2.1, fun j hj => ?_⟩)
    by_cases e : j = a
    · subst e
      exact ⟨h17, fun i' v hv => h16 i' v (by have := (List.getElem?_eq_some_iff.mp hv).1; omega) hv⟩
    · exact hI.2.2.2 j (by omega)
  | succ c ih =>
    intro i hi0 x4 o A e4 hI h18 h17 h14 h16
    subst e4
    have hi : i < (Ws a).length := by omega
    iterate 4 (refine zv_step (bX7_clear 290) rfl rfl trivial ?_)
    refine zv_iff (by show ¬ o 18 ≤ nI i; rw [h18]; exact nI_ge (by omega) (by omega)) ?_
    iterate 10 (refine zv_step (bX7_clear 290) rfl rfl trivial ?_)
    refine zv_iale (bX7_clear 290) rfl rfl (vp_in_nI (n := i) (by omega) (by decide)) (show A 14 (nI i).toNatClampNeg = (Ws a)[i] by rw [nI_clamp (by omega)]; exact h14 i _ (List.getElem?_eq_getElem hi)) ?_
    refine zv_step (bX7_clear 290) rfl rfl (show vp_in (c8 20 * nI a + nI i) 5600 by rw [ix20 (by omega) (by omega)]; exact vp_in_nI (by omega) (by decide)) ?_
    iterate 2 (refine zv_step (bX7_clear 290) rfl rfl trivial ?_)
    have ex : (c8 20 * nI a + nI i).toNatClampNeg = 20 * a + i := by rw [ix20 (by omega) (by omega)]; exact nI_clamp (by omega)
    show zV (zMo 290 zX7_clear) false n0 0 0 96 [(4, .int (nI i + Int32.ofInt 1)), (3, .int (nI a)), (0, .ref 76), (1, .int (nI s)), (2, .int p2)] [] (wR f o (updA A 16 (upd (A 16) (c8 20 * nI a + nI i).toNatClampNeg (Ws a)[i])) J) Q
    rw [ex]
    refine ih (i + 1) (by omega) (nI_1 i) ⟨hI.1, hI.2.1, hI.2.2.1, fun j hj => ⟨(hI.2.2.2 j hj).1, fun i' v hv => ?_⟩⟩ h18 h17 h14 (fun j v hj hv => ?_)
    · have hlj := hWl j (by omega)
      have := (List.getElem?_eq_some_iff.mp hv).1
      show upd (A 16) (20 * a + i) (Ws a)[i] (20 * j + i') = v
      unfold upd
      rw [if_neg (by omega)]
      exact (hI.2.2.2 j hj).2 i' v hv
    · show upd (A 16) (20 * a + i) (Ws a)[i] (20 * a + j) = v
      by_cases e : j = i
      · subst e
        rw [upd_self]
        exact Option.some.inj ((List.getElem?_eq_getElem hi).symm.trans hv)
      · unfold upd
        rw [if_neg (by omega)]
        exact h16 j v (by omega) hv
set_option maxHeartbeats 1000000 in
set_option maxRecDepth 20000 in
theorem sayL (f : Nat → zC) (J : Nat → Nat → Int64) {T : List zNd} {K7 : Nat → Int32} {Ws : Nat → List Int32} {s : Nat} {p2 : Int32} (hTl : T.length ≤ 280) (hWl : ∀ a, a < T.length → (Ws a).length ≤ 20) {Q : Option Value → zW → Prop} {n0 : Nat} {kp : Nat → Bool} (hok : ∀ a e, T[a]? = some e → okN a e = true) (hs : s < 8) (hk : ∀ k, k < 10 → K7 (10 * s + k) = if kp k then 1 else 0) (hW : ∀ a e, T[a]? = some e → Ws a = wordsW kp Ws e) (kk : ∀ (o : Nat → Int32) (A : Nat → Nat → Int32), cI T K7 Ws T.length o A → zV (zMo 290 zX7_clear) false n0 0 0 136 [(0, .ref 76), (1, .int (nI s)), (2, .int p2)] [] (wR f o A J) Q) : ∀ (c a : Nat), a + c = T.length → ∀ {x3 : Int32} {o : Nat → Int32} {A : Nat → Nat → Int32}, x3 = nI a → cI T K7 Ws a o A → zV (zMo 290 zX7_clear) false n0 0 0 66 [(3, .int x3), (0, .ref 76), (1, .int (nI s)), (2, .int p2)] [] (wR f o A J) Q := by
  intro c
  induction c with
  | zero =>
    intro a ha0 x3 o A e3 hI
    have e : a = T.length := by omega
    subst e
    iterate 4 (refine zv_step (bX7_clear 290) rfl rfl trivial ?_)
    refine zv_ift (by rw [e3]; show o 23 ≤ nI T.length; rw [hI.1]; exact nI_le (by omega) (by omega)) ?_
    exact zv_locals (fun q hq => List.mem_cons_of_mem _ hq) (kk o A hI)
  | succ c ih =>
    intro a ha0 x3 o A e3 hI
    subst e3
    have ha : a < T.length := by omega
    have hla := hWl a ha
    iterate 4 (refine zv_step (bX7_clear 290) rfl rfl trivial ?_)
    refine zv_iff (by show ¬ o 23 ≤ nI a; rw [hI.1]; exact nI_ge (by omega) (by omega)) ?_
    iterate 5 (refine zv_step (bX7_clear 290) rfl rfl trivial ?_)
    show zV (zMo 290 zX7_clear) false n0 0 0 80 [(3, .int (nI a)), (0, .ref 76), (1, .int (nI s)), (2, .int p2)] [.int (c8 120 + nI a), .int (nI s), .ref 76] (wR f o A J) Q
    rw [e120, nI_add]
    refine zv_V2 (bX7_clear 290) rfl rfl rfl rfl rfl rfl rfl ⟨rfl, rfl, rfl⟩ ⟨by show a + 3 + 1 ≤ 290; omega, by show 8 + (3 + 11) + 64 * (a + 3) ≤ 64 * 290; omega⟩ ⟨Nat.zero_le _, Nat.zero_le _⟩ (mSayAll f o A J (b := 120) (by omega) hI.2.1 hok hs (by rw [hI.2.2.1]; exact hk) hW ha (by omega)) ?_
    rintro _ _ ⟨rfl, rfl⟩
    iterate 5 (refine zv_step (bX7_clear 290) rfl rfl trivial ?_)
    refine zv_step (bX7_clear 290) rfl rfl (show vp_in (nI a) 280 from vp_in_nI (by omega) (by decide)) ?_
    iterate 2 (refine zv_step (bX7_clear 290) rfl rfl trivial ?_)
    show zV (zMo 290 zX7_clear) false n0 0 0 96 [(4, .int (Int32.ofInt 0)), (3, .int (nI a)), (0, .ref 76), (1, .int (nI s)), (2, .int p2)] [] (wR f (upd (upd o 19 (Int32.ofInt (-1))) 18 (nI (Ws a).length)) (updA (updA A 14 (appA (A 14) 0 (Ws a))) 17 (upd (A 17) (nI a).toNatClampNeg (nI (Ws a).length))) J) Q
    rw [clampS (by omega)]
    refine copyL f J hTl hWl ha (fun o' A' hI' => ?_) (Ws a).length 0 (by omega) rfl ⟨hI.1, hI.2.1, hI.2.2.1, fun j hj => ⟨?_, (hI.2.2.2 j hj).2⟩⟩ rfl (upd_self _ _ _) (fun j v hv => ?_) (fun j v hj => absurd hj (by omega))
    · iterate 2 (refine zv_step (bX7_clear 290) rfl rfl trivial ?_)
      exact ih (a + 1) (by omega) (nI_1 a) hI'
    · show upd (A 17) a (nI (Ws a).length) j = _
      unfold upd
      rw [if_neg (by omega)]
      exact (hI.2.2.2 j hj).1
    · have := appA_at (Ws a) (A 14) 0 j hv
      rw [Nat.zero_add] at this
      exact this
set_option maxHeartbeats 1000000 in
set_option maxRecDepth 20000 in
theorem cmpB (f : Nat → zC) (J : Nat → Nat → Int64) {T : List zNd} {K7 : Nat → Int32} {Ws : Nat → List Int32} {s : Nat} {p2 : Int32} (hTl : T.length ≤ 280) (hWl : ∀ a, a < T.length → (Ws a).length ≤ 20) {Q : Option Value → zW → Prop} {n0 : Nat} {a : Nat} (ha : a < T.length) (h0 : (∃ x y, y < x ∧ x < T.length ∧ Ws x = Ws y) → ∀ w, Q (some (.int 0)) w) {o : Nat → Int32} {A : Nat → Nat → Int32} (hI : cI T K7 Ws T.length o A) (kk : (∀ y, y < a → Ws a ≠ Ws y) → zV (zMo 290 zX7_clear) false n0 0 0 173 [(3, .int (nI a)), (0, .ref 76), (1, .int (nI s)), (2, .int p2)] [] (wR f o A J) Q) : ∀ (c b : Nat), b + c = a → ∀ {x4 : Int32}, x4 = nI b → (∀ y, y < b → Ws a ≠ Ws y) → zV (zMo 290 zX7_clear) false n0 0 0 149 [(4, .int x4), (3, .int (nI a)), (0, .ref 76), (1, .int (nI s)), (2, .int p2)] [] (wR f o A J) Q := by
  have hla := hWl a ha
  intro c
  induction c with
  | zero =>
    intro b hb x4 e4 hd
    iterate 3 (refine zv_step (bX7_clear 290) rfl rfl trivial ?_)
    refine zv_ift (by rw [e4]; exact nI_le (by omega) (by omega)) ?_
    exact zv_locals (fun q hq => List.mem_cons_of_mem _ hq) (kk (fun y hy => hd y (by omega)))
  | succ c ih =>
    intro b hb x4 e4 hd
    subst e4
    iterate 3 (refine zv_step (bX7_clear 290) rfl rfl trivial ?_)
    refine zv_iff (nI_ge (by omega) (by omega)) ?_
    iterate 3 (refine zv_step (bX7_clear 290) rfl rfl trivial ?_)
    refine zv_V2 (bX7_clear 290) rfl rfl rfl rfl rfl rfl rfl ⟨rfl, rfl, rfl⟩ ⟨Nat.le_of_ble_eq_true rfl, Nat.le_of_ble_eq_true rfl⟩ ⟨Nat.zero_le _, Nat.zero_le _⟩ (mSame f o A J (by omega) (by omega) (hI.2.2.2 a ha) (hI.2.2.2 b (by omega)) hla (hWl b (by omega))) ?_
    rintro _ _ ⟨rfl, ⟨he, rfl⟩ | ⟨he, rfl⟩⟩
    · iterate 1 (refine zv_step (bX7_clear 290) rfl rfl trivial ?_)
      refine zv_iff (by decide) ?_
      iterate 1 (refine zv_step (bX7_clear 290) rfl rfl trivial ?_)
      exact zv_iret (bX7_clear 290) rfl (Or.inl rfl) (Nat.zero_le _) (Nat.zero_le _) (h0 ⟨a, b, by omega, ha, he⟩ _)
    · iterate 1 (refine zv_step (bX7_clear 290) rfl rfl trivial ?_)
      refine zv_ift (by decide) ?_
      iterate 2 (refine zv_step (bX7_clear 290) rfl rfl trivial ?_)
      refine ih (b + 1) (by omega) (nI_1 b) (fun y hy => ?_)
      by_cases e : y = b
      · subst e; exact he
      · exact hd y (by omega)
set_option maxHeartbeats 1000000 in
set_option maxRecDepth 20000 in
theorem cmpA (f : Nat → zC) (J : Nat → Nat → Int64) {T : List zNd} {K7 : Nat → Int32} {Ws : Nat → List Int32} {s : Nat} {p2 : Int32} (hTl : T.length ≤ 280) (hWl : ∀ a, a < T.length → (Ws a).length ≤ 20) {Q : Option Value → zW → Prop} {n0 : Nat} (h0 : (∃ x y, y < x ∧ x < T.length ∧ Ws x = Ws y) → ∀ w, Q (some (.int 0)) w) (h1 : (∀ x y, y < x → x < T.length → Ws x ≠ Ws y) → ∀ w, Q (some (.int 1)) w) {o : Nat → Int32} {A : Nat → Nat → Int32} (hI : cI T K7 Ws T.length o A) : ∀ (c a : Nat), a + c = T.length → ∀ {x3 : Int32}, x3 = nI a → (∀ x y, y < x → x < a → Ws x ≠ Ws y) → zV (zMo 290 zX7_clear) false n0 0 0 138 [(3, .int x3), (0, .ref 76), (1, .int (nI s)), (2, .int p2)] [] (wR f o A J) Q := by
  intro c
  induction c with
  | zero =>
    intro a ha0 x3 e3 hd
    have e : a = T.length := by omega
    subst e
    iterate 4 (refine zv_step (bX7_clear 290) rfl rfl trivial ?_)
    refine zv_ift (by rw [e3]; show o 23 ≤ nI T.length; rw [hI.1]; exact nI_le (by omega) (by omega)) ?_
    iterate 1 (refine zv_step (bX7_clear 290) rfl rfl trivial ?_)
    exact zv_iret (bX7_clear 290) rfl (Or.inl rfl) (Nat.zero_le _) (Nat.zero_le _) (h1 hd _)
  | succ c ih =>
    intro a ha0 x3 e3 hd
    subst e3
    have ha : a < T.length := by omega
    iterate 4 (refine zv_step (bX7_clear 290) rfl rfl trivial ?_)
    refine zv_iff (by show ¬ o 23 ≤ nI a; rw [hI.1]; exact nI_ge (by omega) (by omega)) ?_
    iterate 2 (refine zv_step (bX7_clear 290) rfl rfl trivial ?_)
    refine cmpB f J hTl hWl ha h0 hI (fun hn => ?_) a 0 (by omega) rfl (fun y hy => absurd hy (by omega))
    iterate 2 (refine zv_step (bX7_clear 290) rfl rfl trivial ?_)
    refine ih (a + 1) (by omega) (nI_1 a) (fun x y h2 h3 => ?_)
    by_cases e : x = a
    · subst e; exact hn y h2
    · exact hd x y h2 (by omega)
