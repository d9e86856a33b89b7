noncomputable def klA (A : Nat → Nat → Int32) : Nat → Int32 → List Int32
  | 0, _ => []
  | z + 1, x => if x < 0 then [] else A 0 (nC x) :: (klA A z (A 2 (nC x)) ++ klA A z (A 3 (nC x)))
theorem klA_m2 (A : Nat → Nat → Int32) (z : Nat) : klA A z m2 = [] := by
  cases z with
  | zero => rfl
  | succ z => exact if_pos (by decide)
theorem klA_nI {A : Nat → Nat → Int32} {n : Nat} (hn : n < 450) (z : Nat) : klA A (z + 1) (nI n) = A 0 n :: (klA A z (A 2 n) ++ klA A z (A 3 n)) := by
  show (if nI n < 0 then [] else A 0 (nI n).toNatClampNeg :: (klA A z (A 2 (nI n).toNatClampNeg) ++ klA A z (A 3 (nI n).toNatClampNeg))) = _
  rw [if_neg (nI_pos (by omega)), nI_clamp (by omega)]
theorem klA_len {lo hi : Nat} {A : Nat → Nat → Int32} (hh : hi ≤ 450) (hT : tbI lo hi A) : ∀ (z n : Nat), lo ≤ n → n < hi → szN A n ≤ z → (klA A z (nI n)).length = szN A n
  | 0, n, hlo, hn, hz => by
    have := (rN_sz (hT n hlo hn)).1
    omega
  | z + 1, n, hlo, hn, hz => by
    rw [klA_nI (by omega)]
    rcases rN_sum (hT n hlo hn) with ⟨h2, h3, es⟩ | ⟨a, h2, h3, la, ha, es⟩ | ⟨a, b, h2, h3, la, ha, lb, hb, es⟩
    · rw [h2, h3, klA_m2]
      exact es.symm
    · rw [h2, h3, klA_m2, List.append_nil, List.length_cons, klA_len hh hT z a (by omega) (by omega) (by omega)]
      omega
    · rw [h2, h3, List.length_cons, List.length_append, klA_len hh hT z a (by omega) (by omega) (by omega), klA_len hh hT z b (by omega) (by omega) (by omega)]
      omega
theorem kl_same {u : Nat} (hu : u ≤ 120) {P A : Nat → Nat → Int32} (hT : tbI 0 u A) (hN : NR u P A) : ∀ (z n : Nat), n < u → szN A n ≤ z → klP P (nI u) z (nI n) = klA A z (nI n)
  | 0, n, hn, hz => by
    have := (rN_sz (hT n (Nat.zero_le _) hn)).1
    omega
  | z + 1, n, hn, hz => by
    obtain ⟨n1, n2, n3, n4, n5, _⟩ := hN n hn
    have e1 : klP P (nI u) z m1 = [] := klP_n z (fun q => absurd q.1 (by decide))
    rw [klA_nI (by omega), klP_y z (has_n hn hu), show nC (nI n) = n from nI_clamp (by omega), n1, n3, n4]
    rcases rN_sum (hT n (Nat.zero_le _) hn) with ⟨h2, h3, es⟩ | ⟨a, h2, h3, la, ha, es⟩ | ⟨a, b, h2, h3, la, ha, lb, hb, es⟩
    · rw [h2, h3, cvI_m2, e1, klA_m2]
    · rw [h2, h3, cvI_m2, e1, klA_m2, cvI_nI (by omega), kl_same hu hT hN z a (by omega) (by omega)]
    · rw [h2, h3, cvI_nI (by omega), cvI_nI (by omega), kl_same hu hT hN z a (by omega) (by omega), kl_same hu hT hN z b (by omega) (by omega)]
/-- n of them written from b on -/
def cpO (g s : Nat → Int32) (b n : Nat) (j : Nat) : Int32 := if b ≤ j ∧ j < b + n then s (j - b) else g j
theorem cpO_0 (g s : Nat → Int32) (b : Nat) : cpO g s b 0 = g := by
  funext j
  exact if_neg (by omega)
theorem cpO_s (g s : Nat → Int32) (b n : Nat) : upd (cpO g s b n) (b + n) (s n) = cpO g s b (n + 1) := by
  funext j
  unfold upd cpO
  by_cases e : j = b + n
  · rw [if_pos e, if_pos (by omega), show j - b = n by omega]
  · rw [if_neg e]
    by_cases w : b ≤ j ∧ j < b + n
    · rw [if_pos w, if_pos (by omega)]
    · rw [if_neg w, if_neg (by omega)]
theorem cpO_in {g s : Nat → Int32} {b n i : Nat} (h : i < n) : cpO g s b n (b + i) = s i := by
  unfold cpO
  rw [if_pos (by omega), show b + i - b = i by omega]
theorem cpO_out {g s : Nat → Int32} {b n j : Nat} (h : ¬ (b ≤ j ∧ j < b + n)) : cpO g s b n j = g j := if_neg h
/-- but for shelf s, the shelves are as they were -/
def shF (s : Nat) (A A' : Nat → Nat → Int32) : Prop := (∀ r t, 9 ≤ r → r ≤ 12 → t ≠ s → A' r t = A r t) ∧ (∀ j, ¬ (60 * s ≤ j ∧ j < 60 * s + 60) → A' 13 j = A 13 j)
def kpM (A : Nat → Nat → Int32) (u h : Nat) (y x n : Int32) (o o' : Nat → Int32) (A' : Nat → Nat → Int32) (R : Int32) : Prop :=
  (R = Int32.ofInt (-1) ∧ ¬ kpG u y x n ∧ o' = o ∧ A' = A) ∨ ∃ s, s < 8 ∧ y = nI s ∧ R = Int32.ofInt 0 ∧ shF s A A' ∧ A' 9 s = x ∧ ((x = nI 0) ∨ (∃ j, j < u ∧ n = nI j ∧ x = nI 1 ∧ A' 10 s = A 0 j ∧ A' 11 s = A 1 j ∧ A' 12 s = nI (szN A j)) ∨ (x = nI 3 ∧ A' 12 s = nI h ∧ ∀ i, i < h → A' 13 (60 * s + i) = A 8 i) ∨ (∃ j, j < u ∧ n = nI j ∧ x = nI 4 ∧ A' 12 s = nI (szN A j) ∧ ∀ i v, (klA A 40 (nI j))[i]? = some v → A' 13 (60 * s + i) = v))
theorem cl60 {s q : Nat} (hs : s < 8) (hq : q ≤ 60) : (c8 60 * nI s + nI q).toNatClampNeg = 60 * s + q := by
  rw [ix60, nI_clamp (by omega)]
set_option maxHeartbeats 1000000 in
set_option maxRecDepth 20000 in
theorem mKindsX (f : Nat → zC) (o : Nat → Int32) (A : Nat → Nat → Int32) (J : Nat → Nat → Int64) {lo hi : Nat} (hh : hi ≤ 450) (hT : tbI lo hi A) {s : Nat} (hs : s < 8) : ∀ (z n : Nat), lo ≤ n → n < hi → szN A n ≤ z → ∀ (q : Nat) (g : Nat → Int32), q + szN A n ≤ 60 → zK (z + 1) zX7_kinds [.ref 76, .int (nI s), .int (nI n)] (wR f (upd o 34 (nI q)) (updA A 13 g) J) (fun r w' => r = none ∧ w' = (wR f (upd o 34 (nI (q + szN A n))) (updA A 13 (appA g (60 * s + q) (klA A z (nI n)))) J)) := by
  intro z
  induction z with
  | zero =>
    intro n hlo hn hz
    have := (rN_sz (hT n hlo hn)).1
    omega
  | succ z ih =>
    intro n hlo hn hz q g hq
    refine zK_of qX7_kinds (by decide +kernel) rfl ?_
    rcases rN_sum (hT n hlo hn) with ⟨h2, h3, es⟩ | ⟨a, h2, h3, la, ha, es⟩ | ⟨a, b, h2, h3, la, ha, lb, hb, es⟩
    · iterate 11 (refine zv_step (bX7_kinds (z + 1 + 1)) rfl rfl trivial ?_)
      refine zv_iale (bX7_kinds (z + 1 + 1)) rfl rfl (vp_in_nI (by omega) (by decide)) (show A 0 (nI n).toNatClampNeg = A 0 n by rw [nI_clamp (by omega)]) ?_
      refine zv_step (bX7_kinds (z + 1 + 1)) rfl rfl (show vp_in (c8 60 * nI s + nI q) 480 by rw [ix60]; exact vp_in_nI (by omega) (by decide)) ?_
      iterate 6 (refine zv_step (bX7_kinds (z + 1 + 1)) rfl rfl trivial ?_)
      refine zv_world (show _ = (wR f (upd o 34 (nI (q + 1))) (updA A 13 (upd g (60 * s + q) (A 0 n))) J) from by rw [show nI (q + 1) = nI q + Int32.ofInt 1 from (nI_1 q).symm, ← cl60 hs (show q ≤ 60 by omega)]; rfl) ?_
      iterate 3 (refine zv_step (bX7_kinds (z + 1 + 1)) rfl rfl trivial ?_)
      refine zv_iale (bX7_kinds (z + 1 + 1)) rfl rfl (vp_in_nI (by omega) (by decide)) (show A 2 (nI n).toNatClampNeg = m2 by rw [nI_clamp (by omega)]; exact h2) ?_
      iterate 1 (refine zv_step (bX7_kinds (z + 1 + 1)) rfl rfl trivial ?_)
      refine zv_ift (by decide) ?_
      iterate 3 (refine zv_step (bX7_kinds (z + 1 + 1)) rfl rfl trivial ?_)
      refine zv_iale (bX7_kinds (z + 1 + 1)) rfl rfl (vp_in_nI (by omega) (by decide)) (show A 3 (nI n).toNatClampNeg = m2 by rw [nI_clamp (by omega)]; exact h3) ?_
      iterate 1 (refine zv_step (bX7_kinds (z + 1 + 1)) rfl rfl trivial ?_)
      refine zv_ift (by decide) ?_
      exact zv_ret (bX7_kinds (z + 1 + 1)) rfl rfl (Nat.zero_le _) (Nat.zero_le _) ⟨rfl, by rw [es, klA_nI (by omega), h2, h3, klA_m2]; rfl⟩
    · iterate 11 (refine zv_step (bX7_kinds (z + 1 + 1)) rfl rfl trivial ?_)
      refine zv_iale (bX7_kinds (z + 1 + 1)) rfl rfl (vp_in_nI (by omega) (by decide)) (show A 0 (nI n).toNatClampNeg = A 0 n by rw [nI_clamp (by omega)]) ?_
      refine zv_step (bX7_kinds (z + 1 + 1)) rfl rfl (show vp_in (c8 60 * nI s + nI q) 480 by rw [ix60]; exact vp_in_nI (by omega) (by decide)) ?_
      iterate 6 (refine zv_step (bX7_kinds (z + 1 + 1)) rfl rfl trivial ?_)
      refine zv_world (show _ = (wR f (upd o 34 (nI (q + 1))) (updA A 13 (upd g (60 * s + q) (A 0 n))) J) from by rw [show nI (q + 1) = nI q + Int32.ofInt 1 from (nI_1 q).symm, ← cl60 hs (show q ≤ 60 by omega)]; rfl) ?_
      iterate 3 (refine zv_step (bX7_kinds (z + 1 + 1)) rfl rfl trivial ?_)
      refine zv_iale (bX7_kinds (z + 1 + 1)) rfl rfl (vp_in_nI (by omega) (by decide)) (show A 2 (nI n).toNatClampNeg = nI a by rw [nI_clamp (by omega)]; exact h2) ?_
      iterate 1 (refine zv_step (bX7_kinds (z + 1 + 1)) rfl rfl trivial ?_)
      refine zv_iff (nI_pos (by omega)) ?_
      iterate 5 (refine zv_step (bX7_kinds (z + 1 + 1)) rfl rfl trivial ?_)
      refine zv_iale (bX7_kinds (z + 1 + 1)) rfl rfl (vp_in_nI (by omega) (by decide)) (show A 2 (nI n).toNatClampNeg = nI a by rw [nI_clamp (by omega)]; exact h2) ?_
      refine zv_V2 (bX7_kinds (z + 1 + 1)) rfl rfl rfl rfl rfl rfl rfl ⟨rfl, rfl, rfl⟩ ⟨by show z + 1 + 1 ≤ z + 1 + 1; omega, by show 8 + (3 + 11) + 64 * (z + 1) ≤ 64 * (z + 1 + 1); omega⟩ ⟨Nat.zero_le _, Nat.zero_le _⟩ (ih a (by omega) (by omega) (by omega) (q + 1) (upd g (60 * s + q) (A 0 n)) (by omega)) ?_
      rintro _ _ ⟨rfl, rfl⟩
      refine zv_world (show _ = (wR f (upd o 34 (nI (q + 1 + szN A a))) (updA A 13 (appA (upd g (60 * s + q) (A 0 n)) (60 * s + (q + 1)) (klA A z (nI a)))) J) from rfl) ?_
      iterate 3 (refine zv_step (bX7_kinds (z + 1 + 1)) rfl rfl trivial ?_)
      refine zv_iale (bX7_kinds (z + 1 + 1)) rfl rfl (vp_in_nI (by omega) (by decide)) (show A 3 (nI n).toNatClampNeg = m2 by rw [nI_clamp (by omega)]; exact h3) ?_
      iterate 1 (refine zv_step (bX7_kinds (z + 1 + 1)) rfl rfl trivial ?_)
      refine zv_ift (by decide) ?_
      exact zv_ret (bX7_kinds (z + 1 + 1)) rfl rfl (Nat.zero_le _) (Nat.zero_le _) ⟨rfl, by rw [es, klA_nI (by omega), h2, h3, klA_m2, List.append_nil, show q + (1 + szN A a) = q + 1 + szN A a by omega, appA_c, show 60 * s + q + 1 = 60 * s + (q + 1) by omega]⟩
    · iterate 11 (refine zv_step (bX7_kinds (z + 1 + 1)) rfl rfl trivial ?_)
      refine zv_iale (bX7_kinds (z + 1 + 1)) rfl rfl (vp_in_nI (by omega) (by decide)) (show A 0 (nI n).toNatClampNeg = A 0 n by rw [nI_clamp (by omega)]) ?_
      refine zv_step (bX7_kinds (z + 1 + 1)) rfl rfl (show vp_in (c8 60 * nI s + nI q) 480 by rw [ix60]; exact vp_in_nI (by omega) (by decide)) ?_
      iterate 6 (refine zv_step (bX7_kinds (z + 1 + 1)) rfl rfl trivial ?_)
      refine zv_world (show _ = (wR f (upd o 34 (nI (q + 1))) (updA A 13 (upd g (60 * s + q) (A 0 n))) J) from by rw [show nI (q + 1) = nI q + Int32.ofInt 1 from (nI_1 q).symm, ← cl60 hs (show q ≤ 60 by omega)]; rfl) ?_
      iterate 3 (refine zv_step (bX7_kinds (z + 1 + 1)) rfl rfl trivial ?_)
      refine zv_iale (bX7_kinds (z + 1 + 1)) rfl rfl (vp_in_nI (by omega) (by decide)) (show A 2 (nI n).toNatClampNeg = nI a by rw [nI_clamp (by omega)]; exact h2) ?_
      iterate 1 (refine zv_step (bX7_kinds (z + 1 + 1)) rfl rfl trivial ?_)
      refine zv_iff (nI_pos (by omega)) ?_
      iterate 5 (refine zv_step (bX7_kinds (z + 1 + 1)) rfl rfl trivial ?_)
      refine zv_iale (bX7_kinds (z + 1 + 1)) rfl rfl (vp_in_nI (by omega) (by decide)) (show A 2 (nI n).toNatClampNeg = nI a by rw [nI_clamp (by omega)]; exact h2) ?_
      refine zv_V2 (bX7_kinds (z + 1 + 1)) rfl rfl rfl rfl rfl rfl rfl ⟨rfl, rfl, rfl⟩ ⟨by show z + 1 + 1 ≤ z + 1 + 1; omega, by show 8 + (3 + 11) + 64 * (z + 1) ≤ 64 * (z + 1 + 1); omega⟩ ⟨Nat.zero_le _, Nat.zero_le _⟩ (ih a (by omega) (by omega) (by omega) (q + 1) (upd g (60 * s + q) (A 0 n)) (by omega)) ?_
      rintro _ _ ⟨rfl, rfl⟩
      refine zv_world (show _ = (wR f (upd o 34 (nI (q + 1 + szN A a))) (updA A 13 (appA (upd g (60 * s + q) (A 0 n)) (60 * s + (q + 1)) (klA A z (nI a)))) J) from rfl) ?_
      iterate 3 (refine zv_step (bX7_kinds (z + 1 + 1)) rfl rfl trivial ?_)
      refine zv_iale (bX7_kinds (z + 1 + 1)) rfl rfl (vp_in_nI (by omega) (by decide)) (show A 3 (nI n).toNatClampNeg = nI b by rw [nI_clamp (by omega)]; exact h3) ?_
      iterate 1 (refine zv_step (bX7_kinds (z + 1 + 1)) rfl rfl trivial ?_)
      refine zv_iff (nI_pos (by omega)) ?_
      iterate 5 (refine zv_step (bX7_kinds (z + 1 + 1)) rfl rfl trivial ?_)
      refine zv_iale (bX7_kinds (z + 1 + 1)) rfl rfl (vp_in_nI (by omega) (by decide)) (show A 3 (nI n).toNatClampNeg = nI b by rw [nI_clamp (by omega)]; exact h3) ?_
      refine zv_V2 (bX7_kinds (z + 1 + 1)) rfl rfl rfl rfl rfl rfl rfl ⟨rfl, rfl, rfl⟩ ⟨by show z + 1 + 1 ≤ z + 1 + 1; omega, by show 8 + (3 + 11) + 64 * (z + 1) ≤ 64 * (z + 1 + 1); omega⟩ ⟨Nat.zero_le _, Nat.zero_le _⟩ (ih b (by omega) (by omega) (by omega) (q + 1 + szN A a) (appA (upd g (60 * s + q) (A 0 n)) (60 * s + (q + 1)) (klA A z (nI a))) (by omega)) ?_
      rintro _ _ ⟨rfl, rfl⟩
      exact zv_ret (bX7_kinds (z + 1 + 1)) rfl rfl (Nat.zero_le _) (Nat.zero_le _) ⟨rfl, by rw [es, klA_nI (by omega), h2, h3, show q + (1 + szN A a + szN A b) = q + 1 + szN A a + szN A b by omega, appA_c, appA_app, klA_len hh hT z a (by omega) (by omega) (by omega), show 60 * s + q + 1 = 60 * s + (q + 1) by omega, show 60 * s + (q + 1) + szN A a = 60 * s + (q + 1 + szN A a) by omega]⟩
set_option maxHeartbeats 1000000 in
set_option maxRecDepth 20000 in
theorem keepLX (f : Nat → zC) (o : Nat → Int32) (A : Nat → Nat → Int32) (J : Nat → Nat → Int64) {h s : Nat} (hh : h ≤ 20) (ho10 : o 10 = nI h) (hs : s < 8) {x y : Int32} {n0 : Nat} {Q : Option Value → zW → Prop} (hQ : Q (some (.int (Int32.ofInt 0))) (wR f o (updA A 13 (cpO (A 13) (A 8) (60 * s) h)) J)) : ∀ (c i : Nat), i + c = h → ∀ {x5 : Int32}, x5 = nI i → zV (zMo 42 zX7_keep) false n0 0 0 117 [(5, .int x5), (4, .int (Int32.ofInt 1)), (0, .ref 76), (1, .int (nI s)), (2, .int y), (3, .int x)] [] (wR f o (updA A 13 (cpO (A 13) (A 8) (60 * s) i)) J) Q := by
  intro c
  induction c with
  | zero =>
    intro i hc x5 e5
    subst e5
    iterate 4 (refine zv_step (bX7_keep 42) rfl rfl trivial ?_)
    refine zv_ift (show o 10 ≤ nI i by rw [ho10]; exact nI_le (by omega) (by omega)) ?_
    iterate 2 (refine zv_step (bX7_keep 42) rfl rfl trivial ?_)
    obtain rfl : i = h := by omega
    exact zv_iret (bX7_keep 42) rfl (Or.inl rfl) (Nat.zero_le _) (Nat.zero_le _) hQ
  | succ c ih =>
    intro i hc x5 e5
    subst e5
    iterate 4 (refine zv_step (bX7_keep 42) rfl rfl trivial ?_)
    refine zv_iff (show ¬ o 10 ≤ nI i by rw [ho10]; exact fun h => absurd ((nI_leI (by omega) (by omega)).mp h) (by omega)) ?_
    iterate 10 (refine zv_step (bX7_keep 42) rfl rfl trivial ?_)
    refine zv_iale (bX7_keep 42) rfl rfl (vp_in_nI (by omega) (by decide)) (show A 8 (nI i).toNatClampNeg = A 8 i by rw [nI_clamp (by omega)]) ?_
    refine zv_step (bX7_keep 42) rfl rfl (show vp_in (c8 60 * nI s + nI i) 480 by rw [ix60]; exact vp_in_nI (by omega) (by decide)) ?_
    iterate 2 (refine zv_step (bX7_keep 42) rfl rfl trivial ?_)
    refine zv_world (show _ = wR f o (updA A 13 (cpO (A 13) (A 8) (60 * s) (i + 1))) J from by rw [← cpO_s, ← cl60 hs (show i ≤ 60 by omega)]; rfl) ?_
    exact ih (i + 1) (by omega) (nI_1 i)
theorem upd_cl {f : Nat → Int32} {s t : Nat} {v : Int32} (hs : s < 8) : upd f (nI s).toNatClampNeg v t = if t = s then v else f t := by
  rw [nI_clamp (by omega)]
  rfl
theorem shF_of {s : Nat} (hs : s < 8) {A : Nat → Nat → Int32} {a9 a10 a11 a12 : Int32} {g : Nat → Int32} (b10 b11 b12 : Bool) (hg : ∀ j, ¬ (60 * s ≤ j ∧ j < 60 * s + 60) → g j = A 13 j) {A' : Nat → Nat → Int32} (e9 : A' 9 = upd (A 9) (nI s).toNatClampNeg a9) (e10 : A' 10 = if b10 then upd (A 10) (nI s).toNatClampNeg a10 else A 10) (e11 : A' 11 = if b11 then upd (A 11) (nI s).toNatClampNeg a11 else A 11) (e12 : A' 12 = if b12 then upd (A 12) (nI s).toNatClampNeg a12 else A 12) (e13 : A' 13 = g) : shF s A A' := by
  refine ⟨fun r t h1 h2 h3 => ?_, fun j hj => by rw [e13]; exact hg j hj⟩
  rcases (show r = 9 ∨ r = 10 ∨ r = 11 ∨ r = 12 by omega) with rfl | rfl | rfl | rfl
  · rw [e9, upd_cl hs, if_neg h3]
  · rw [e10]
    cases b10
    · rfl
    · rw [if_pos rfl, upd_cl hs, if_neg h3]
  · rw [e11]
    cases b11
    · rfl
    · rw [if_pos rfl, upd_cl hs, if_neg h3]
  · rw [e12]
    cases b12
    · rfl
    · rw [if_pos rfl, upd_cl hs, if_neg h3]
theorem upd_at {f : Nat → Int32} {s : Nat} {v : Int32} (hs : s < 8) : upd f (nI s).toNatClampNeg v s = v := by
  rw [upd_cl hs, if_pos rfl]
theorem appA_hi : ∀ (L : List Int32) (g : Nat → Int32) (q j : Nat), q + L.length ≤ j → appA g q L j = g j
  | [], _, _, _, _ => rfl
  | v :: L, g, q, j, h => by
    rw [List.length_cons] at h
    rw [appA_c, appA_hi L _ _ _ (by omega), upd_ne _ _ (by omega)]
theorem appA_fr (L : List Int32) (g : Nat → Int32) {q b : Nat} (h : L.length ≤ 60) (e : q = b) : ∀ j, ¬ (b ≤ j ∧ j < b + 60) → appA g q L j = g j := fun j hj => by
  subst e
  by_cases w : j < q
  · exact appA_lo L g q j w
  · exact appA_hi L g q j (by omega)
theorem klA_fr {A A' : Nat → Nat → Int32} (h0 : A' 0 = A 0) (h2 : A' 2 = A 2) (h3 : A' 3 = A 3) : ∀ (z : Nat) (x : Int32), klA A' z x = klA A z x
  | 0, _ => rfl
  | z + 1, x => by
    show (if x < 0 then [] else A' 0 (nC x) :: (klA A' z (A' 2 (nC x)) ++ klA A' z (A' 3 (nC x)))) = (if x < 0 then [] else A 0 (nC x) :: (klA A z (A 2 (nC x)) ++ klA A z (A 3 (nC x))))
    rw [h0, h2, h3, klA_fr h0 h2 h3 z, klA_fr h0 h2 h3 z]
set_option maxHeartbeats 1000000 in
set_option maxRecDepth 20000 in
theorem mKeepX (f : Nat → zC) (o : Nat → Int32) (A : Nat → Nat → Int32) (J : Nat → Nat → Int64) {u : Nat} (hu : u ≤ 120) (ho : o 0 = nI u) (hT : tbI 0 u A) {h : Nat} (hh : h ≤ 20) (ho10 : o 10 = nI h) (hS : szS A) (d y x : Int32) : zK 42 zX7_keep [.ref 76, .int d, .int y, .int x] (wR f o A J) (fun r w' => ∃ (o' : Nat → Int32) (A' : Nat → Nat → Int32) (R : Int32), r = some (.int R) ∧ w' = wR f o' A' J ∧ shM o A o' A' ∧ kpM A u h d y x o o' A' R) := by
  refine zK_of qX7_keep (by decide +kernel) rfl ?_
  iterate 2 (refine zv_step (bX7_keep 42) rfl rfl trivial ?_)
  refine zv_ifb (fun h1 => ?_) (fun h1 => ?_)
  · iterate 4 (refine zv_step (bX7_keep 42) rfl rfl trivial ?_)
    refine zv_S1 (bX7_keep 42) rfl rfl rfl rfl ⟨rfl, rfl, rfl⟩ ⟨by decide, by decide⟩ ⟨Nat.zero_le _, Nat.zero_le _⟩ (hX7_isShelf _ _) ?_
    rintro _ _ ⟨rfl, ⟨g2, rfl⟩ | ⟨g2, rfl⟩⟩
    · obtain ⟨s, hs, rfl⟩ := in_nat (b := 7) (by decide) g2
      iterate 1 (refine zv_step (bX7_keep 42) rfl rfl trivial ?_)
      refine zv_iff (by decide) ?_
      iterate 2 (refine zv_step (bX7_keep 42) rfl rfl trivial ?_)
      refine zv_ift (by decide) ?_
      iterate 4 (refine zv_step (bX7_keep 42) rfl rfl trivial ?_)
      refine zv_step (bX7_keep 42) rfl rfl (show vp_in (nI s) 8 from vp_in_nI (by omega) (by decide)) ?_
      iterate 3 (refine zv_step (bX7_keep 42) rfl rfl trivial ?_)
      refine zv_ift (fun h => absurd ((h1).symm.trans h) (by decide)) ?_
      iterate 3 (refine zv_step (bX7_keep 42) rfl rfl trivial ?_)
      refine zv_ift (fun h => absurd ((h1).symm.trans h) (by decide)) ?_
      iterate 3 (refine zv_step (bX7_keep 42) rfl rfl trivial ?_)
      refine zv_ift (fun h => absurd ((h1).symm.trans h) (by decide)) ?_
      iterate 1 (refine zv_step (bX7_keep 42) rfl rfl trivial ?_)
      exact zv_iret (bX7_keep 42) rfl (Or.inl rfl) (Nat.zero_le _) (Nat.zero_le _) ⟨o, (updA A 9 (upd (A 9) (nI s).toNatClampNeg y)), _, rfl, rfl, ⟨fun _ _ => rfl, fun r a b => updA_ne _ _ (by omega), hS⟩, Or.inr ⟨s, by omega, rfl, rfl, shF_of (by omega) (a9 := y) (a10 := 0) (a11 := 0) (a12 := 0) false false false (fun _ _ => rfl) rfl rfl rfl rfl rfl, upd_at (by omega), Or.inl h1⟩⟩
    · skip
      iterate 1 (refine zv_step (bX7_keep 42) rfl rfl trivial ?_)
      refine zv_ift (by decide) ?_
      iterate 1 (refine zv_step (bX7_keep 42) rfl rfl trivial ?_)
      exact zv_iret (bX7_keep 42) rfl (Or.inl rfl) (Nat.zero_le _) (Nat.zero_le _) ⟨o, A, _, rfl, rfl, shM_refl hS, Or.inl ⟨rfl, fun q => g2 q.1, rfl, rfl⟩⟩
  · iterate 3 (refine zv_step (bX7_keep 42) rfl rfl trivial ?_)
    refine zv_ifb (fun h6 => ?_) (fun h6 => ?_)
    · iterate 4 (refine zv_step (bX7_keep 42) rfl rfl trivial ?_)
      refine zv_S1 (bX7_keep 42) rfl rfl rfl rfl ⟨rfl, rfl, rfl⟩ ⟨by decide, by decide⟩ ⟨Nat.zero_le _, Nat.zero_le _⟩ (hX7_isShelf _ _) ?_
      rintro _ _ ⟨rfl, ⟨g2, rfl⟩ | ⟨g2, rfl⟩⟩
      · obtain ⟨s, hs, rfl⟩ := in_nat (b := 7) (by decide) g2
        iterate 1 (refine zv_step (bX7_keep 42) rfl rfl trivial ?_)
        refine zv_iff (by decide) ?_
        iterate 2 (refine zv_step (bX7_keep 42) rfl rfl trivial ?_)
        refine zv_ift (by decide) ?_
        iterate 4 (refine zv_step (bX7_keep 42) rfl rfl trivial ?_)
        refine zv_step (bX7_keep 42) rfl rfl (show vp_in (nI s) 8 from vp_in_nI (by omega) (by decide)) ?_
        iterate 3 (refine zv_step (bX7_keep 42) rfl rfl trivial ?_)
        refine zv_ift (fun h => absurd ((h6).symm.trans h) (by decide)) ?_
        iterate 3 (refine zv_step (bX7_keep 42) rfl rfl trivial ?_)
        refine zv_iff (fun h => h (h6)) ?_
        iterate 5 (refine zv_step (bX7_keep 42) rfl rfl trivial ?_)
        refine zv_step (bX7_keep 42) rfl rfl (show vp_in (nI s) 8 from vp_in_nI (by omega) (by decide)) ?_
        iterate 2 (refine zv_step (bX7_keep 42) rfl rfl trivial ?_)
        refine zv_world (show _ = wR f o (updA (updA (updA A 9 (upd (A 9) (nI s).toNatClampNeg y)) 12 (upd (A 12) (nI s).toNatClampNeg (o 10))) 13 (cpO (A 13) (A 8) (60 * s) 0)) J from by rw [cpO_0]; rfl) ?_
        exact keepLX f o (updA (updA A 9 (upd (A 9) (nI s).toNatClampNeg y)) 12 (upd (A 12) (nI s).toNatClampNeg (o 10))) J hh ho10 (by omega) ⟨o, _, _, rfl, rfl, ⟨fun _ _ => rfl, fun r a b => by rw [updA_ne _ _ (by omega), updA_ne _ _ (by omega), updA_ne _ _ (by omega)], up12 hS ⟨h, by omega, ho10⟩⟩, Or.inr ⟨s, by omega, rfl, rfl, shF_of (by omega) (a9 := y) (a10 := 0) (a11 := 0) (a12 := o 10) false false true (fun j hj => cpO_out (by omega)) rfl rfl rfl rfl rfl, upd_at (by omega), Or.inr (Or.inr (Or.inl ⟨h6, by rw [← ho10]; exact upd_at (by omega), fun i hi => cpO_in hi⟩))⟩⟩ h 0 (by omega) rfl
      · skip
        iterate 1 (refine zv_step (bX7_keep 42) rfl rfl trivial ?_)
        refine zv_ift (by decide) ?_
        iterate 1 (refine zv_step (bX7_keep 42) rfl rfl trivial ?_)
        exact zv_iret (bX7_keep 42) rfl (Or.inl rfl) (Nat.zero_le _) (Nat.zero_le _) ⟨o, A, _, rfl, rfl, shM_refl hS, Or.inl ⟨rfl, fun q => g2 q.1, rfl, rfl⟩⟩
    · iterate 3 (refine zv_step (bX7_keep 42) rfl rfl trivial ?_)
      refine zv_ifb (fun h11 => ?_) (fun h11 => ?_)
      · iterate 2 (refine zv_step (bX7_keep 42) rfl rfl trivial ?_)
        refine zv_V1 (bX7_keep 42) rfl rfl rfl rfl rfl rfl rfl ⟨rfl, rfl, rfl⟩ ⟨by decide, by decide⟩ ⟨Nat.zero_le _, Nat.zero_le _⟩ (mIsNode f o A J hu ho _) ?_
        rintro _ _ ⟨rfl, ⟨g1, rfl⟩ | ⟨g1, rfl⟩⟩
        · obtain ⟨n, hn, rfl⟩ := nd_of (by omega) g1
          have sn := (rN_sz (hT n (Nat.zero_le _) hn)).2
          have hkl := klA_len (by omega) hT 40 n (Nat.zero_le _) hn sn.1
          iterate 1 (refine zv_step (bX7_keep 42) rfl rfl trivial ?_)
          refine zv_iff (by decide) ?_
          iterate 4 (refine zv_step (bX7_keep 42) rfl rfl trivial ?_)
          refine zv_S1 (bX7_keep 42) rfl rfl rfl rfl ⟨rfl, rfl, rfl⟩ ⟨by decide, by decide⟩ ⟨Nat.zero_le _, Nat.zero_le _⟩ (hX7_isShelf _ _) ?_
          rintro _ _ ⟨rfl, ⟨g2, rfl⟩ | ⟨g2, rfl⟩⟩
          · obtain ⟨s, hs, rfl⟩ := in_nat (b := 7) (by decide) g2
            iterate 1 (refine zv_step (bX7_keep 42) rfl rfl trivial ?_)
            refine zv_iff (by decide) ?_
            iterate 2 (refine zv_step (bX7_keep 42) rfl rfl trivial ?_)
            refine zv_ift (by decide) ?_
            iterate 4 (refine zv_step (bX7_keep 42) rfl rfl trivial ?_)
            refine zv_step (bX7_keep 42) rfl rfl (show vp_in (nI s) 8 from vp_in_nI (by omega) (by decide)) ?_
            iterate 3 (refine zv_step (bX7_keep 42) rfl rfl trivial ?_)
            refine zv_iff (fun h => h (h11)) ?_
            iterate 6 (refine zv_step (bX7_keep 42) rfl rfl trivial ?_)
            refine zv_iale (bX7_keep 42) rfl rfl (vp_in_nI (by omega) (by decide)) (show A 0 (nI n).toNatClampNeg = A 0 n by rw [nI_clamp (by omega)]) ?_
            refine zv_step (bX7_keep 42) rfl rfl (show vp_in (nI s) 8 from vp_in_nI (by omega) (by decide)) ?_
            iterate 6 (refine zv_step (bX7_keep 42) rfl rfl trivial ?_)
            refine zv_iale (bX7_keep 42) rfl rfl (vp_in_nI (by omega) (by decide)) (show A 1 (nI n).toNatClampNeg = A 1 n by rw [nI_clamp (by omega)]) ?_
            refine zv_step (bX7_keep 42) rfl rfl (show vp_in (nI s) 8 from vp_in_nI (by omega) (by decide)) ?_
            iterate 6 (refine zv_step (bX7_keep 42) rfl rfl trivial ?_)
            refine zv_iale (bX7_keep 42) rfl rfl (vp_in_nI (by omega) (by decide)) (show A 4 (nI n).toNatClampNeg = nI (szN A n) by rw [nI_clamp (by omega)]; exact sn.2) ?_
            refine zv_step (bX7_keep 42) rfl rfl (show vp_in (nI s) 8 from vp_in_nI (by omega) (by decide)) ?_
            iterate 2 (refine zv_step (bX7_keep 42) rfl rfl trivial ?_)
            exact zv_iret (bX7_keep 42) rfl (Or.inl rfl) (Nat.zero_le _) (Nat.zero_le _) ⟨o, (updA (updA (updA (updA A 9 (upd (A 9) (nI s).toNatClampNeg y)) 10 (upd (A 10) (nI s).toNatClampNeg (A 0 n))) 11 (upd (A 11) (nI s).toNatClampNeg (A 1 n))) 12 (upd (A 12) (nI s).toNatClampNeg (nI (szN A n)))), _, rfl, rfl, ⟨fun _ _ => rfl, fun r a b => by rw [updA_ne _ _ (by omega), updA_ne _ _ (by omega), updA_ne _ _ (by omega), updA_ne _ _ (by omega)], up12 hS ⟨_, by omega, rfl⟩⟩, Or.inr ⟨s, by omega, rfl, rfl, shF_of (by omega) (a9 := y) (a10 := A 0 n) (a11 := A 1 n) (a12 := nI (szN A n)) true true true (fun _ _ => rfl) rfl rfl rfl rfl rfl, upd_at (by omega), Or.inr (Or.inl ⟨n, hn, rfl, h11, upd_at (by omega), upd_at (by omega), upd_at (by omega)⟩)⟩⟩
          · skip
            iterate 1 (refine zv_step (bX7_keep 42) rfl rfl trivial ?_)
            refine zv_ift (by decide) ?_
            iterate 1 (refine zv_step (bX7_keep 42) rfl rfl trivial ?_)
            exact zv_iret (bX7_keep 42) rfl (Or.inl rfl) (Nat.zero_le _) (Nat.zero_le _) ⟨o, A, _, rfl, rfl, shM_refl hS, Or.inl ⟨rfl, fun q => g2 q.1, rfl, rfl⟩⟩
        · skip
          iterate 1 (refine zv_step (bX7_keep 42) rfl rfl trivial ?_)
          refine zv_ift (by decide) ?_
          iterate 3 (refine zv_step (bX7_keep 42) rfl rfl trivial ?_)
          refine zv_S1 (bX7_keep 42) rfl rfl rfl rfl ⟨rfl, rfl, rfl⟩ ⟨by decide, by decide⟩ ⟨Nat.zero_le _, Nat.zero_le _⟩ (hX7_isShelf _ _) ?_
          rintro _ _ ⟨rfl, ⟨g2, rfl⟩ | ⟨g2, rfl⟩⟩
          · obtain ⟨s, hs, rfl⟩ := in_nat (b := 7) (by decide) g2
            iterate 1 (refine zv_step (bX7_keep 42) rfl rfl trivial ?_)
            refine zv_iff (by decide) ?_
            iterate 2 (refine zv_step (bX7_keep 42) rfl rfl trivial ?_)
            refine zv_iff (by decide) ?_
            iterate 1 (refine zv_step (bX7_keep 42) rfl rfl trivial ?_)
            exact zv_iret (bX7_keep 42) rfl (Or.inl rfl) (Nat.zero_le _) (Nat.zero_le _) ⟨o, A, _, rfl, rfl, shM_refl hS, Or.inl ⟨rfl, fun q => (by rcases q.2 with e | e | ⟨e | e, w⟩ <;> first | exact h1 e | exact h6 e | exact g1 (by have := w.1; have := w.2; omega)), rfl, rfl⟩⟩
          · skip
            iterate 1 (refine zv_step (bX7_keep 42) rfl rfl trivial ?_)
            refine zv_ift (by decide) ?_
            iterate 1 (refine zv_step (bX7_keep 42) rfl rfl trivial ?_)
            exact zv_iret (bX7_keep 42) rfl (Or.inl rfl) (Nat.zero_le _) (Nat.zero_le _) ⟨o, A, _, rfl, rfl, shM_refl hS, Or.inl ⟨rfl, fun q => g2 q.1, rfl, rfl⟩⟩
      · iterate 3 (refine zv_step (bX7_keep 42) rfl rfl trivial ?_)
        refine zv_ifb (fun h16 => ?_) (fun h16 => ?_)
        · iterate 3 (refine zv_step (bX7_keep 42) rfl rfl trivial ?_)
          refine zv_S1 (bX7_keep 42) rfl rfl rfl rfl ⟨rfl, rfl, rfl⟩ ⟨by decide, by decide⟩ ⟨Nat.zero_le _, Nat.zero_le _⟩ (hX7_isShelf _ _) ?_
          rintro _ _ ⟨rfl, ⟨g2, rfl⟩ | ⟨g2, rfl⟩⟩
          · obtain ⟨s, hs, rfl⟩ := in_nat (b := 7) (by decide) g2
            iterate 1 (refine zv_step (bX7_keep 42) rfl rfl trivial ?_)
            refine zv_iff (by decide) ?_
            iterate 2 (refine zv_step (bX7_keep 42) rfl rfl trivial ?_)
            refine zv_iff (by decide) ?_
            iterate 1 (refine zv_step (bX7_keep 42) rfl rfl trivial ?_)
            exact zv_iret (bX7_keep 42) rfl (Or.inl rfl) (Nat.zero_le _) (Nat.zero_le _) ⟨o, A, _, rfl, rfl, shM_refl hS, Or.inl ⟨rfl, fun q => (by rcases q.2 with e | e | ⟨e | e, w⟩ <;> first | exact h1 e | exact h6 e | exact h11 e | exact h16 e), rfl, rfl⟩⟩
          · skip
            iterate 1 (refine zv_step (bX7_keep 42) rfl rfl trivial ?_)
            refine zv_ift (by decide) ?_
            iterate 1 (refine zv_step (bX7_keep 42) rfl rfl trivial ?_)
            exact zv_iret (bX7_keep 42) rfl (Or.inl rfl) (Nat.zero_le _) (Nat.zero_le _) ⟨o, A, _, rfl, rfl, shM_refl hS, Or.inl ⟨rfl, fun q => g2 q.1, rfl, rfl⟩⟩
        · iterate 2 (refine zv_step (bX7_keep 42) rfl rfl trivial ?_)
          refine zv_V1 (bX7_keep 42) rfl rfl rfl rfl rfl rfl rfl ⟨rfl, rfl, rfl⟩ ⟨by decide, by decide⟩ ⟨Nat.zero_le _, Nat.zero_le _⟩ (mIsNode f o A J hu ho _) ?_
          rintro _ _ ⟨rfl, ⟨g1, rfl⟩ | ⟨g1, rfl⟩⟩
          · obtain ⟨n, hn, rfl⟩ := nd_of (by omega) g1
            have sn := (rN_sz (hT n (Nat.zero_le _) hn)).2
            have hkl := klA_len (by omega) hT 40 n (Nat.zero_le _) hn sn.1
            iterate 1 (refine zv_step (bX7_keep 42) rfl rfl trivial ?_)
            refine zv_iff (by decide) ?_
            iterate 4 (refine zv_step (bX7_keep 42) rfl rfl trivial ?_)
            refine zv_S1 (bX7_keep 42) rfl rfl rfl rfl ⟨rfl, rfl, rfl⟩ ⟨by decide, by decide⟩ ⟨Nat.zero_le _, Nat.zero_le _⟩ (hX7_isShelf _ _) ?_
            rintro _ _ ⟨rfl, ⟨g2, rfl⟩ | ⟨g2, rfl⟩⟩
            · obtain ⟨s, hs, rfl⟩ := in_nat (b := 7) (by decide) g2
              iterate 1 (refine zv_step (bX7_keep 42) rfl rfl trivial ?_)
              refine zv_iff (by decide) ?_
              iterate 2 (refine zv_step (bX7_keep 42) rfl rfl trivial ?_)
              refine zv_ift (by decide) ?_
              iterate 4 (refine zv_step (bX7_keep 42) rfl rfl trivial ?_)
              refine zv_step (bX7_keep 42) rfl rfl (show vp_in (nI s) 8 from vp_in_nI (by omega) (by decide)) ?_
              iterate 3 (refine zv_step (bX7_keep 42) rfl rfl trivial ?_)
              refine zv_ift (fun h => absurd ((Decidable.not_not.mp h16).symm.trans h) (by decide)) ?_
              iterate 3 (refine zv_step (bX7_keep 42) rfl rfl trivial ?_)
              refine zv_ift (fun h => absurd ((Decidable.not_not.mp h16).symm.trans h) (by decide)) ?_
              iterate 3 (refine zv_step (bX7_keep 42) rfl rfl trivial ?_)
              refine zv_iff (fun h => h (Decidable.not_not.mp h16)) ?_
              iterate 3 (refine zv_step (bX7_keep 42) rfl rfl trivial ?_)
              refine zv_world (show _ = wR f (upd o 34 (nI 0)) (updA (updA A 9 (upd (A 9) (nI s).toNatClampNeg y)) 13 (A 13)) J from rfl) ?_
              have ek9 : klA (updA A 9 (upd (A 9) (nI s).toNatClampNeg y)) 40 (nI n) = klA A 40 (nI n) := klA_fr (A := A) (A' := (updA A 9 (upd (A 9) (nI s).toNatClampNeg y))) rfl rfl rfl 40 (nI n)
              iterate 3 (refine zv_step (bX7_keep 42) rfl rfl trivial ?_)
              refine zv_V2 (bX7_keep 42) rfl rfl rfl rfl rfl rfl rfl ⟨rfl, rfl, rfl⟩ ⟨by decide, by decide⟩ ⟨Nat.zero_le _, Nat.zero_le _⟩ (mKindsX f o (updA A 9 (upd (A 9) (nI s).toNatClampNeg y)) J (by omega) (tbI_u hT (by decide) _) (by omega) 40 n (Nat.zero_le _) hn (show szN A n ≤ 40 from sn.1) 0 _ (show 0 + szN A n ≤ 60 by omega)) ?_
              rintro _ _ ⟨rfl, rfl⟩
              rw [ek9]
              iterate 5 (refine zv_step (bX7_keep 42) rfl rfl trivial ?_)
              refine zv_step (bX7_keep 42) rfl rfl (show vp_in (nI s) 8 from vp_in_nI (by omega) (by decide)) ?_
              iterate 1 (refine zv_step (bX7_keep 42) rfl rfl trivial ?_)
              exact zv_iret (bX7_keep 42) rfl (Or.inl rfl) (Nat.zero_le _) (Nat.zero_le _) ⟨upd o 34 (nI (0 + szN A n)), (updA (updA (updA A 9 (upd (A 9) (nI s).toNatClampNeg y)) 13 (appA (A 13) (60 * s + 0) (klA A 40 (nI n)))) 12 (upd (A 12) (nI s).toNatClampNeg (nI (0 + szN A n)))), _, rfl, rfl, ⟨fun j a => upd_ne _ _ a, fun r a b => by rw [updA_ne _ _ (by omega), updA_ne _ _ (by omega), updA_ne _ _ (by omega)], up12 hS ⟨_, by omega, rfl⟩⟩, Or.inr ⟨s, by omega, rfl, rfl, shF_of (by omega) (a9 := y) (a10 := 0) (a11 := 0) (a12 := nI (0 + szN A n)) false false true (appA_fr (klA A 40 (nI n)) (A 13) (by rw [hkl]; omega) rfl) rfl rfl rfl rfl rfl, upd_at (by omega), Or.inr (Or.inr (Or.inr ⟨n, hn, rfl, Decidable.not_not.mp h16, (upd_at (s := s) (v := nI (0 + szN A n)) (by omega)).trans (by rw [Nat.zero_add]), fun i v e => appA_at (klA A 40 (nI n)) (A 13) (60 * s + 0) i e⟩))⟩⟩
            · skip
              iterate 1 (refine zv_step (bX7_keep 42) rfl rfl trivial ?_)
              refine zv_ift (by decide) ?_
              iterate 1 (refine zv_step (bX7_keep 42) rfl rfl trivial ?_)
              exact zv_iret (bX7_keep 42) rfl (Or.inl rfl) (Nat.zero_le _) (Nat.zero_le _) ⟨o, A, _, rfl, rfl, shM_refl hS, Or.inl ⟨rfl, fun q => g2 q.1, rfl, rfl⟩⟩
          · skip
            iterate 1 (refine zv_step (bX7_keep 42) rfl rfl trivial ?_)
            refine zv_ift (by decide) ?_
            iterate 3 (refine zv_step (bX7_keep 42) rfl rfl trivial ?_)
            refine zv_S1 (bX7_keep 42) rfl rfl rfl rfl ⟨rfl, rfl, rfl⟩ ⟨by decide, by decide⟩ ⟨Nat.zero_le _, Nat.zero_le _⟩ (hX7_isShelf _ _) ?_
            rintro _ _ ⟨rfl, ⟨g2, rfl⟩ | ⟨g2, rfl⟩⟩
            · obtain ⟨s, hs, rfl⟩ := in_nat (b := 7) (by decide) g2
              iterate 1 (refine zv_step (bX7_keep 42) rfl rfl trivial ?_)
              refine zv_iff (by decide) ?_
              iterate 2 (refine zv_step (bX7_keep 42) rfl rfl trivial ?_)
              refine zv_iff (by decide) ?_
              iterate 1 (refine zv_step (bX7_keep 42) rfl rfl trivial ?_)
              exact zv_iret (bX7_keep 42) rfl (Or.inl rfl) (Nat.zero_le _) (Nat.zero_le _) ⟨o, A, _, rfl, rfl, shM_refl hS, Or.inl ⟨rfl, fun q => (by rcases q.2 with e | e | ⟨e | e, w⟩ <;> first | exact h1 e | exact h6 e | exact g1 (by have := w.1; have := w.2; omega)), rfl, rfl⟩⟩
            · skip
              iterate 1 (refine zv_step (bX7_keep 42) rfl rfl trivial ?_)
              refine zv_ift (by decide) ?_
              iterate 1 (refine zv_step (bX7_keep 42) rfl rfl trivial ?_)
              exact zv_iret (bX7_keep 42) rfl (Or.inl rfl) (Nat.zero_le _) (Nat.zero_le _) ⟨o, A, _, rfl, rfl, shM_refl hS, Or.inl ⟨rfl, fun q => g2 q.1, rfl, rfl⟩⟩
