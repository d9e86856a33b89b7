section
theorem mSayAllE (f : Nat → zC) (o : Nat → Int32) (A : Nat → Nat → Int32) (J : Nat → Nat → Int64) {lo hi : Nat} (hh : hi ≤ 450) (hT : tbI lo hi A) (hB : blI A) {s n : Nat} (hs : s < 8) (hlo : lo ≤ n) (hn : n < hi) {x : Int32} (e : x = nI n) : zK 43 zX7_sayAll [.ref 76, .int (nI s), .int x] (wR f o A J) (fun r w' => r = none ∧ ∃ (m' : Int32) (g' : Nat → Int32), w' = wZ f (upd o 19 (Int32.ofInt (-1))) A J (lnW A s 40 (nI n)) m' g' ∧ nnW (lnW A s 40 (nI n)) g') := e ▸ mSayAll f o A J hh hT hB hs hlo hn
/-- small trees stand from place 120 on -/
def smI (m : Nat) (A : Nat → Nat → Int32) : Prop := tbI 120 (120 + m) A ∧ (∀ n, 120 ≤ n → n < 120 + m → szN A n ≤ 4) ∧ (∀ n, 120 ≤ n → n < 120 + m → A 0 n = nI 1 → A 1 n = nI 1) ∧ blI A
theorem smI_fr {m : Nat} {A A' : Nat → Nat → Int32} (h : smI m A) (e : ∀ r, r < 8 → A' r = A r) : smI m A' := by
  obtain ⟨a, b, c, d⟩ := h
  refine ⟨tbI_fr a (fun r hr i _ _ => by rw [e r (by omega)]), fun n h1 h2 => ?_, fun n h1 h2 => ?_, fun i => ?_, fun i => ?_⟩
  · unfold szN
    rw [e 4 (by decide)]
    exact b n h1 h2
  · rw [e 0 (by decide), e 1 (by decide)]
    exact c n h1 h2
  · rw [e 6 (by decide)]
    exact d.1 i
  · rw [e 7 (by decide)]
    exact d.2 i
theorem lnW_4 {lo hi : Nat} {A : Nat → Nat → Int32} (hh : hi ≤ 450) (hT : tbI lo hi A) (h1 : ∀ n, lo ≤ n → n < hi → A 0 n = nI 1 → A 1 n = nI 1) (s : Nat) : ∀ (z : Nat) (x : Int32), pt lo hi A z x → lnW A s z x ≤ 4 * (if x < 0 then 0 else szN A x.toNatClampNeg) := by
  intro z
  induction z with
  | zero => exact fun x _ => Nat.zero_le _
  | succ z ih =>
    intro x hx
    rcases hx with rfl | ⟨n, rfl, hlo, hn, hz⟩
    · rw [lnW_m2]
      exact Nat.zero_le _
    · obtain ⟨k, hk, h0⟩ := rN_kd (hT n hlo hn)
      obtain ⟨hp2, hp3⟩ := rN_parts hT hlo hn hz
      have i2 := ih _ hp2
      have i3 := ih _ hp3
      rw [lnW_nI (by omega) hk h0, if_neg (nI_pos (by omega)), nI_clamp (by omega)]
      have ho : ownW A n ≤ 2 := by
        unfold ownW
        split
        · rename_i e
          rw [h1 n hlo hn e]
          decide
        · split <;> decide
      have hc : (if A 7 (10 * s + k) = 0 then 0 else 2) ≤ 2 := by split <;> decide
      obtain ⟨k, y, _, _, h4, hy, hs, _⟩ := hT n hlo hn
      rw [szN_of h4 hy]
      rcases hs with ⟨_, h2, h3, e⟩ | ⟨_, _, a, b, h2, la, ha, h3, lb, hb, e⟩ | ⟨_, a, h2, la, ha, h3, e⟩
      · rw [h2, if_pos (by decide)] at i2
        rw [h3, if_pos (by decide)] at i3
        rw [h2, h3]
        omega
      · rw [h2, if_neg (nI_pos (by omega)), nI_clamp (by omega)] at i2
        rw [h3, if_neg (nI_pos (by omega)), nI_clamp (by omega)] at i3
        rw [h2, h3]
        omega
      · rw [h2, if_neg (nI_pos (by omega)), nI_clamp (by omega)] at i2
        rw [h3, if_pos (by decide)] at i3
        rw [h2, h3]
        omega
theorem smI_ln {m : Nat} {A : Nat → Nat → Int32} (h : smI m A) (hm : m ≤ 280) (s : Nat) {a : Nat} (ha : a < m) : lnW A s 40 (nI (120 + a)) ≤ 20 := by
  have q := lnW_4 (by omega) h.1 h.2.2.1 s 40 (nI (120 + a)) (pt_of h.1 (by omega) (by omega))
  have z := h.2.1 (120 + a) (by omega) (by omega)
  rw [if_neg (nI_pos (by omega)), nI_clamp (by omega)] at q
  omega
def clX (o : Nat → Int32) (A : Nat → Nat → Int32) (o' : Nat → Int32) (A' : Nat → Nat → Int32) : Prop := (∀ j, ¬ (18 ≤ j ∧ j ≤ 23) → o' j = o j) ∧ (∀ r i, i < 120 → r < 6 → A' r i = A r i) ∧ (∀ r, 6 ≤ r → ¬ (14 ≤ r ∧ r ≤ 17) → A' r = A r)
theorem clX_refl (o : Nat → Int32) (A : Nat → Nat → Int32) : clX o A o A := ⟨fun _ _ => rfl, fun _ _ _ _ => rfl, fun _ _ _ => rfl⟩
theorem clX_trans {o o1 o2 : Nat → Int32} {A A1 A2 : Nat → Nat → Int32} (h : clX o A o1 A1) (k : clX o1 A1 o2 A2) : clX o A o2 A2 := ⟨fun j a => (k.1 j a).trans (h.1 j a), fun r i a b => (k.2.1 r i a b).trans (h.2.1 r i a b), fun r a b => (k.2.2 r a b).trans (h.2.2 r a b)⟩
theorem clX_q {o o' : Nat → Int32} {A A' : Nat → Nat → Int32} (q : qX o A o' A') : clX o A o' A' := ⟨fun j a => q.1 j (by omega), fun r i a b => by rw [q.2 r (by omega) (by omega)], fun r a b => q.2 r (by omega) (by omega)⟩
theorem clX_r (o : Nat → Int32) (A : Nat → Nat → Int32) {k : Nat} (g : Nat → Int32) (h : 14 ≤ k ∧ k ≤ 17) : clX o A o (updA A k g) := ⟨fun _ _ => rfl, fun r i a b => by rw [updA_ne _ _ (by omega)], fun r a b => updA_ne _ _ (by omega)⟩
def mnI (m : Nat) (A : Nat → Nat → Int32) : Prop := ∀ b, b < m → ∃ q : Nat, q ≤ 20 ∧ A 17 b = nI q
theorem ix20 {a i : Nat} : c8 20 * nI a + nI i = nI (20 * a + i) := by
  show Int32.ofNat 20 * Int32.ofNat a + Int32.ofNat i = _
  rw [← Int32.ofNat_mul, ← Int32.ofNat_add]
  rfl
set_option maxHeartbeats 1000000 in
set_option maxRecDepth 20000 in
theorem sameL (f : Nat → zC) (o : Nat → Int32) (A : Nat → Nat → Int32) (J : Nat → Nat → Int64) {a b p : Nat} (ha : a < 280) (hb : b < 280) (hp9 : p ≤ 20) (hp : A 17 a = nI p) {n0 : Nat} : ∀ (c i : Nat), i + c = p → ∀ {x4 c3 : Int32}, x4 = nI i → (c3 = 0 ∨ c3 = 1) → zV (zMo 0 zX7_isSame) false n0 0 0 24 [(4, .int x4), (3, .int c3), (0, .ref 76), (1, .int (nI a)), (2, .int (nI b))] [] (wR f o A J) (fun r w' => w' = (wR f o A J) ∧ (r = some (.int 1) ∨ r = some (.int 0))) := by
  intro c
  induction c with
  | zero =>
    intro i hi x4 c3 e4 hc
    subst e4
    iterate 4 (refine zv_step (bX7_isSame 0) rfl rfl trivial ?_)
    refine zv_iale (bX7_isSame 0) rfl rfl (vp_in_nI (by omega) (by decide)) (show A 17 (nI a).toNatClampNeg = nI p by rw [nI_clamp (by omega)]; exact hp) ?_
    iterate 1 (refine zv_step (bX7_isSame 0) rfl rfl trivial ?_)
    refine zv_ift (nI_le (by omega) (by omega)) ?_
    iterate 1 (refine zv_step (bX7_isSame 0) rfl rfl trivial ?_)
    exact zv_iret (bX7_isSame 0) rfl (Or.inr ⟨rfl, hc⟩) (Nat.zero_le _) (Nat.zero_le _) ⟨rfl, hc.symm.imp (fun e => by rw [e]) (fun e => by rw [e])⟩
  | succ c ih =>
    intro i hi x4 c3 e4 hc
    subst e4
    iterate 4 (refine zv_step (bX7_isSame 0) rfl rfl trivial ?_)
    refine zv_iale (bX7_isSame 0) rfl rfl (vp_in_nI (by omega) (by decide)) (show A 17 (nI a).toNatClampNeg = nI p by rw [nI_clamp (by omega)]; exact hp) ?_
    iterate 1 (refine zv_step (bX7_isSame 0) rfl rfl trivial ?_)
    refine zv_iff (fun h => absurd ((nI_leI (by omega) (by omega)).mp h) (by omega)) ?_
    iterate 2 (refine zv_step (bX7_isSame 0) rfl rfl trivial ?_)
    refine zv_ifb (fun h36 => ?_) (fun h36 => ?_)
    · iterate 1 (refine zv_step (bX7_isSame 0) rfl rfl trivial ?_)
      exact zv_iret (bX7_isSame 0) rfl (Or.inr ⟨rfl, hc⟩) (Nat.zero_le _) (Nat.zero_le _) ⟨rfl, hc.symm.imp (fun e => by rw [e]) (fun e => by rw [e])⟩
    · iterate 7 (refine zv_step (bX7_isSame 0) rfl rfl trivial ?_)
      refine zv_step (bX7_isSame 0) rfl rfl (show vp_in (c8 20 * nI a + nI i) 5600 by rw [ix20]; exact vp_in_nI (by omega) (by decide)) ?_
      iterate 7 (refine zv_step (bX7_isSame 0) rfl rfl trivial ?_)
      refine zv_step (bX7_isSame 0) rfl rfl (show vp_in (c8 20 * nI b + nI i) 5600 by rw [ix20]; exact vp_in_nI (by omega) (by decide)) ?_
      iterate 1 (refine zv_step (bX7_isSame 0) rfl rfl trivial ?_)
      refine zv_ifb (fun h63 => ?_) (fun h63 => ?_)
      · iterate 4 (refine zv_step (bX7_isSame 0) rfl rfl trivial ?_)
        refine zv_locals (l := [(4, .int (nI i + Int32.ofInt 1)), (3, .int (Int32.ofInt 0)), (0, .ref 76), (1, .int (nI a)), (2, .int (nI b))]) (l' := [(4, .int (nI i + Int32.ofInt 1)), (3, .int (Int32.ofInt 0)), (0, .ref 76), (1, .int (nI a)), (2, .int (nI b))]) (fun q h => h) (ih (i + 1) (by omega) (nI_1 i) (Or.inl rfl))
      · iterate 5 (refine zv_step (bX7_isSame 0) rfl rfl trivial ?_)
        refine zv_locals (l := [(4, .int (nI i + Int32.ofInt 1)), (3, .int (Int32.ofInt 1)), (0, .ref 76), (1, .int (nI a)), (2, .int (nI b))]) (l' := [(4, .int (nI i + Int32.ofInt 1)), (3, .int (Int32.ofInt 1)), (0, .ref 76), (1, .int (nI a)), (2, .int (nI b))]) (fun q h => h) (ih (i + 1) (by omega) (nI_1 i) (Or.inr rfl))
set_option maxHeartbeats 1000000 in
set_option maxRecDepth 20000 in
theorem mIsSame (f : Nat → zC) (o : Nat → Int32) (A : Nat → Nat → Int32) (J : Nat → Nat → Int64) {a b p : Nat} (ha : a < 280) (hb : b < 280) (hp9 : p ≤ 20) (hp : A 17 a = nI p) : zK 0 zX7_isSame [.ref 76, .int (nI a), .int (nI b)] (wR f o A J) (fun r w' => w' = (wR f o A J) ∧ (r = some (.int 1) ∨ r = some (.int 0))) := by
  refine zK_of qX7_isSame (by decide +kernel) rfl ?_
  iterate 3 (refine zv_step (bX7_isSame 0) rfl rfl trivial ?_)
  refine zv_step (bX7_isSame 0) rfl rfl (vp_in_nI (by omega) (by decide)) ?_
  iterate 3 (refine zv_step (bX7_isSame 0) rfl rfl trivial ?_)
  refine zv_step (bX7_isSame 0) rfl rfl (vp_in_nI (by omega) (by decide)) ?_
  iterate 1 (refine zv_step (bX7_isSame 0) rfl rfl trivial ?_)
  refine zv_ifb (fun h12 => ?_) (fun h12 => ?_)
  · iterate 4 (refine zv_step (bX7_isSame 0) rfl rfl trivial ?_)
    refine zv_locals (l := [(4, .int (Int32.ofInt 0)), (3, .int (Int32.ofInt 0)), (0, .ref 76), (1, .int (nI a)), (2, .int (nI b))]) (l' := [(4, .int (Int32.ofInt 0)), (3, .int (Int32.ofInt 0)), (0, .ref 76), (1, .int (nI a)), (2, .int (nI b))]) (fun q h => h) (sameL f o A J ha hb hp9 hp p 0 (by omega) rfl (Or.inl rfl))
  · iterate 5 (refine zv_step (bX7_isSame 0) rfl rfl trivial ?_)
    refine zv_locals (l := [(4, .int (Int32.ofInt 0)), (3, .int (Int32.ofInt 1)), (0, .ref 76), (1, .int (nI a)), (2, .int (nI b))]) (l' := [(4, .int (Int32.ofInt 0)), (3, .int (Int32.ofInt 1)), (0, .ref 76), (1, .int (nI a)), (2, .int (nI b))]) (fun q h => h) (sameL f o A J ha hb hp9 hp p 0 (by omega) rfl (Or.inr rfl))
set_option maxHeartbeats 1000000 in
set_option maxRecDepth 20000 in
theorem clrL2 (f : Nat → zC) (o : Nat → Int32) (A : Nat → Nat → Int32) (J : Nat → Nat → Int64) {s n a q : Nat} (ha : a < 280) (hq : q ≤ 20) (ho : o 18 = nI q) {n0 : Nat} {Q : Option Value → zW → Prop} (kk : ∀ g, zV (zMo 45 zX7_clear) false n0 0 0 130 [(3, .int (nI a)), (0, .ref 76), (1, .int (nI s)), (2, .int (nI n))] [] (wR f o (updA A 16 g) J) Q) : ∀ (c i : Nat) (g : Nat → Int32), i + c = q → ∀ {x4 : Int32}, x4 = nI i → zV (zMo 45 zX7_clear) false n0 0 0 96 [(4, .int x4), (3, .int (nI a)), (0, .ref 76), (1, .int (nI s)), (2, .int (nI n))] [] (wR f o (updA A 16 g) J) Q := by
  intro c
  induction c with
  | zero =>
    intro i g hi x4 e4
    subst e4
    iterate 4 (refine zv_step (bX7_clear 45) rfl rfl trivial ?_)
    refine zv_ift (show o 18 ≤ nI i by rw [ho]; exact nI_le (by omega) (by omega)) ?_
    refine zv_locals (l := [(4, .int (nI i)), (3, .int (nI a)), (0, .ref 76), (1, .int (nI s)), (2, .int (nI n))]) (l' := [(3, .int (nI a)), (0, .ref 76), (1, .int (nI s)), (2, .int (nI n))]) ?_ (kk g)
    simp
  | succ c ih =>
    intro i g hi x4 e4
    subst e4
    iterate 4 (refine zv_step (bX7_clear 45) rfl rfl trivial ?_)
    refine zv_iff (show ¬ o 18 ≤ nI i by rw [ho]; exact fun h => absurd ((nI_leI (by omega) (by omega)).mp h) (by omega)) ?_
    iterate 10 (refine zv_step (bX7_clear 45) rfl rfl trivial ?_)
    refine zv_step (bX7_clear 45) rfl rfl (vp_in_nI (by omega) (by decide)) ?_
    refine zv_step (bX7_clear 45) rfl rfl (show vp_in (c8 20 * nI a + nI i) 5600 by rw [ix20]; exact vp_in_nI (by omega) (by decide)) ?_
    iterate 2 (refine zv_step (bX7_clear 45) rfl rfl trivial ?_)
    refine zv_world (show _ = wR f o (updA A 16 (upd g (c8 20 * nI a + nI i).toNatClampNeg (A 14 (nI i).toNatClampNeg))) J from rfl) ?_
    exact ih (i + 1) _ (by omega) (nI_1 i)
set_option maxHeartbeats 1000000 in
set_option maxRecDepth 20000 in
theorem clrL1 (f : Nat → zC) (J : Nat → Nat → Int64) {o0 : Nat → Int32} {A0 : Nat → Nat → Int32} {s n m : Nat} (hs : s < 8) (hm : m ≤ 280) {n0 : Nat} {Q : Option Value → zW → Prop} (kk : ∀ (o' : Nat → Int32) (A' : Nat → Nat → Int32), o' 23 = nI m → smI m A' → mnI m A' → clX o0 A0 o' A' → zV (zMo 45 zX7_clear) false n0 0 0 136 [(0, .ref 76), (1, .int (nI s)), (2, .int (nI n))] [] (wR f o' A' J) Q) : ∀ (c a : Nat) (o : Nat → Int32) (A : Nat → Nat → Int32), a + c = m → o 23 = nI m → smI m A → mnI a A → clX o0 A0 o A → ∀ {x3 : Int32}, x3 = nI a → zV (zMo 45 zX7_clear) false n0 0 0 66 [(3, .int x3), (0, .ref 76), (1, .int (nI s)), (2, .int (nI n))] [] (wR f o A J) Q := by
  intro c
  induction c with
  | zero =>
    intro a o A ha ho hS hM hc x3 e3
    subst e3
    iterate 4 (refine zv_step (bX7_clear 45) rfl rfl trivial ?_)
    refine zv_ift (show o 23 ≤ nI a by rw [ho]; exact nI_le (by omega) (by omega)) ?_
    refine zv_locals (l := [(3, .int (nI a)), (0, .ref 76), (1, .int (nI s)), (2, .int (nI n))]) (l' := [(0, .ref 76), (1, .int (nI s)), (2, .int (nI n))]) ?_ (kk o A ho hS (by rw [show m = a by omega]; exact hM) hc)
    simp
  | succ c ih =>
    intro a o A ha ho hS hM hc x3 e3
    subst e3
    iterate 4 (refine zv_step (bX7_clear 45) rfl rfl trivial ?_)
    refine zv_iff (show ¬ o 23 ≤ nI a by rw [ho]; exact fun h => absurd ((nI_leI (by omega) (by omega)).mp h) (by omega)) ?_
    iterate 5 (refine zv_step (bX7_clear 45) rfl rfl trivial ?_)
    refine zv_V2 (bX7_clear 45) rfl rfl rfl rfl rfl rfl rfl ⟨rfl, rfl, rfl⟩ ⟨by decide, by decide⟩ ⟨Nat.zero_le _, Nat.zero_le _⟩ (mSayAllE f o A J (by omega) hS.1 hS.2.2.2 hs (n := 120 + a) (by omega) (by omega) (show c8 120 + nI a = nI (120 + a) from nI_add 120 a)) ?_
    rintro _ _ ⟨rfl, m1, g9, rfl, w9⟩
    iterate 5 (refine zv_step (bX7_clear 45) rfl rfl trivial ?_)
    refine zv_step (bX7_clear 45) rfl rfl (vp_in_nI (by omega) (by decide)) ?_
    iterate 2 (refine zv_step (bX7_clear 45) rfl rfl trivial ?_)
    have hln := smI_ln hS hm s (show a < m by omega)
    refine zv_world (show _ = wR f (upd (upd (upd o 19 (Int32.ofInt (-1))) 20 m1) 18 (nI (lnW A s 40 (nI (120 + a))))) (updA (updA (updA A 14 g9) 17 (upd (A 17) a (nI (lnW A s 40 (nI (120 + a)))))) 16 (A 16)) J from by rw [show upd (A 17) a (nI (lnW A s 40 (nI (120 + a)))) = upd (A 17) (nI a).toNatClampNeg (nI (lnW A s 40 (nI (120 + a)))) by rw [nI_clamp (by omega)]]; rfl) ?_
    refine clrL2 f (upd (upd (upd o 19 (Int32.ofInt (-1))) 20 m1) 18 (nI (lnW A s 40 (nI (120 + a))))) (updA (updA A 14 g9) 17 (upd (A 17) a (nI (lnW A s 40 (nI (120 + a)))))) J (by omega) hln rfl (fun g => ?_) (lnW A s 40 (nI (120 + a))) 0 (A 16) (by omega) rfl
    iterate 2 (refine zv_step (bX7_clear 45) rfl rfl trivial ?_)
    have e23 : (upd (upd (upd o 19 (Int32.ofInt (-1))) 20 m1) 18 (nI (lnW A s 40 (nI (120 + a))))) 23 = nI m := ho
    have q1 : smI m (updA (updA (updA A 14 g9) 17 (upd (A 17) a (nI (lnW A s 40 (nI (120 + a)))))) 16 g) := smI_fr hS (fun r hr => by rw [updA_ne _ _ (by omega), updA_ne _ _ (by omega), updA_ne _ _ (by omega)])
    have q2 : mnI (a + 1) (updA (updA (updA A 14 g9) 17 (upd (A 17) a (nI (lnW A s 40 (nI (120 + a)))))) 16 g) := by
      intro b hb
      rw [updA_ne _ _ (show 17 ≠ 16 by decide), updA_self]
      by_cases e : b = a
      · subst e
        exact ⟨_, hln, upd_self _ _ _⟩
      · rw [upd_ne _ _ e]
        exact hM b (by omega)
    have q3 : clX o0 A0 (upd (upd (upd o 19 (Int32.ofInt (-1))) 20 m1) 18 (nI (lnW A s 40 (nI (120 + a))))) (updA (updA (updA A 14 g9) 17 (upd (A 17) a (nI (lnW A s 40 (nI (120 + a)))))) 16 g) := clX_trans hc (clX_trans (clX_q (qX_say o A (Int32.ofInt (-1)) m1 (nI (lnW A s 40 (nI (120 + a)))) g9)) (clX_trans (clX_r _ _ (upd (A 17) a (nI (lnW A s 40 (nI (120 + a))))) (by decide)) (clX_r _ _ g (by decide))))
    exact ih (a + 1) (upd (upd (upd o 19 (Int32.ofInt (-1))) 20 m1) 18 (nI (lnW A s 40 (nI (120 + a))))) (updA (updA (updA A 14 g9) 17 (upd (A 17) a (nI (lnW A s 40 (nI (120 + a)))))) 16 g) (by omega) e23 q1 q2 q3 (nI_1 a)
set_option maxHeartbeats 1000000 in
set_option maxRecDepth 20000 in
theorem clrL4 (f : Nat → zC) (o : Nat → Int32) (A : Nat → Nat → Int32) (J : Nat → Nat → Int64) {s n a q : Nat} (ha : a < 280) (hq : q ≤ 20) (hp : A 17 a = nI q) {n0 : Nat} {Q : Option Value → zW → Prop} (hQ : ∀ v : Int32, Q (some (.int v)) (wR f o A J)) (kk : zV (zMo 45 zX7_clear) false n0 0 0 173 [(3, .int (nI a)), (0, .ref 76), (1, .int (nI s)), (2, .int (nI n))] [] (wR f o A J) Q) : ∀ (c b : Nat), b + c = a → ∀ {x4 : Int32}, x4 = nI b → zV (zMo 45 zX7_clear) false n0 0 0 149 [(4, .int x4), (3, .int (nI a)), (0, .ref 76), (1, .int (nI s)), (2, .int (nI n))] [] (wR f o A J) Q := by
  intro c
  induction c with
  | zero =>
    intro b hb x4 e4
    subst e4
    iterate 3 (refine zv_step (bX7_clear 45) rfl rfl trivial ?_)
    refine zv_ift (nI_le (by omega) (by omega)) ?_
    refine zv_locals (l := [(4, .int (nI b)), (3, .int (nI a)), (0, .ref 76), (1, .int (nI s)), (2, .int (nI n))]) (l' := [(3, .int (nI a)), (0, .ref 76), (1, .int (nI s)), (2, .int (nI n))]) ?_ kk
    simp
  | succ c ih =>
    intro b hb x4 e4
    subst e4
    iterate 3 (refine zv_step (bX7_clear 45) rfl rfl trivial ?_)
    refine zv_iff (fun h => absurd ((nI_leI (by omega) (by omega)).mp h) (by omega)) ?_
    iterate 3 (refine zv_step (bX7_clear 45) rfl rfl trivial ?_)
    refine zv_V2 (bX7_clear 45) rfl rfl rfl rfl rfl rfl rfl ⟨rfl, rfl, rfl⟩ ⟨by decide, by decide⟩ ⟨Nat.zero_le _, Nat.zero_le _⟩ (mIsSame f o A J ha (by omega) hq hp) ?_
    rintro _ _ ⟨rfl, rfl | rfl⟩
    · skip
      iterate 1 (refine zv_step (bX7_clear 45) rfl rfl trivial ?_)
      refine zv_iff (by decide) ?_
      iterate 1 (refine zv_step (bX7_clear 45) rfl rfl trivial ?_)
      exact zv_iret (bX7_clear 45) rfl (Or.inl rfl) (Nat.zero_le _) (Nat.zero_le _) (hQ _)
    · skip
      iterate 1 (refine zv_step (bX7_clear 45) rfl rfl trivial ?_)
      refine zv_ift (by decide) ?_
      iterate 2 (refine zv_step (bX7_clear 45) rfl rfl trivial ?_)
      exact ih (b + 1) (by omega) (nI_1 b)
set_option maxHeartbeats 1000000 in
set_option maxRecDepth 20000 in
theorem clrL3 (f : Nat → zC) (o : Nat → Int32) (A : Nat → Nat → Int32) (J : Nat → Nat → Int64) {s n m : Nat} (hm : m ≤ 280) (ho : o 23 = nI m) (hM : mnI m A) {n0 : Nat} {Q : Option Value → zW → Prop} (hQ : ∀ v : Int32, Q (some (.int v)) (wR f o A J)) : ∀ (c a : Nat), a + c = m → ∀ {x3 : Int32}, x3 = nI a → zV (zMo 45 zX7_clear) false n0 0 0 138 [(3, .int x3), (0, .ref 76), (1, .int (nI s)), (2, .int (nI n))] [] (wR f o A J) Q := by
  intro c
  induction c with
  | zero =>
    intro a ha x3 e3
    subst e3
    iterate 4 (refine zv_step (bX7_clear 45) rfl rfl trivial ?_)
    refine zv_ift (show o 23 ≤ nI a by rw [ho]; exact nI_le (by omega) (by omega)) ?_
    iterate 1 (refine zv_step (bX7_clear 45) rfl rfl trivial ?_)
    exact zv_iret (bX7_clear 45) rfl (Or.inl rfl) (Nat.zero_le _) (Nat.zero_le _) (hQ _)
  | succ c ih =>
    intro a ha x3 e3
    subst e3
    iterate 4 (refine zv_step (bX7_clear 45) rfl rfl trivial ?_)
    refine zv_iff (show ¬ o 23 ≤ nI a by rw [ho]; exact fun h => absurd ((nI_leI (by omega) (by omega)).mp h) (by omega)) ?_
    iterate 2 (refine zv_step (bX7_clear 45) rfl rfl trivial ?_)
    obtain ⟨q, hq, eq⟩ := hM a (by omega)
    refine zv_locals (l := [(4, .int (Int32.ofInt 0)), (3, .int (nI a)), (0, .ref 76), (1, .int (nI s)), (2, .int (nI n))]) (l' := [(4, .int (Int32.ofInt 0)), (3, .int (nI a)), (0, .ref 76), (1, .int (nI s)), (2, .int (nI n))]) (fun q h => h) (clrL4 f o A J (by omega) hq eq hQ ?_ a 0 (by omega) rfl)
    iterate 2 (refine zv_step (bX7_clear 45) rfl rfl trivial ?_)
    exact ih (a + 1) (by omega) (nI_1 a)
set_option maxHeartbeats 1000000 in
set_option maxRecDepth 20000 in
theorem clrG (f : Nat → zC) (o : Nat → Int32) (A0 : Nat → Nat → Int32) (J : Nat → Nat → Int64) {s n : Nat} (hn : n ≤ 4) {Q : Option Value → zW → Prop} {n0 : Nat} (kk : ∀ (A : Nat → Nat → Int32) (m : Nat), gI A0 (tabs (n - 1)) A m → zV (zMo 45 zX7_clear) false n0 0 0 64 [(0, .ref 76), (1, .int (nI s)), (2, .int (nI n))] [] (wR f (upd o 23 (nI m)) A J) Q) : ∀ (c j : Nat), j + 2 + c = n + 1 → ∀ {x3 : Int32} {A : Nat → Nat → Int32} {m : Nat}, x3 = nI (j + 2) → gI A0 (tabs j) A m → zV (zMo 45 zX7_clear) false n0 0 0 48 [(3, .int x3), (0, .ref 76), (1, .int (nI s)), (2, .int (nI n))] [] (wR f (upd o 23 (nI m)) A J) Q := by
  intro c
  induction c with
  | zero =>
    intro j hj x3 A m e3 hI
    subst e3
    iterate 3 (refine zv_step (bX7_clear 45) rfl rfl trivial ?_)
    refine zv_ift (show nI n < nI (j + 2) from nI_lt (by omega) (by omega)) ?_
    have e : n - 1 = j := by omega
    rw [e] at kk
    refine zv_locals (l := [(3, .int (nI (j + 2))), (0, .ref 76), (1, .int (nI s)), (2, .int (nI n))]) (l' := [(0, .ref 76), (1, .int (nI s)), (2, .int (nI n))]) ?_ (kk A m hI)
    simp
  | succ c ih =>
    intro j hj x3 A m e3 hI
    subst e3
    iterate 3 (refine zv_step (bX7_clear 45) rfl rfl trivial ?_)
    refine zv_iff (show ¬ nI n < nI (j + 2) from nI_nlt (by omega) (by omega)) ?_
    iterate 2 (refine zv_step (bX7_clear 45) rfl rfl trivial ?_)
    refine zv_V1 (bX7_clear 45) rfl rfl rfl rfl rfl rfl rfl ⟨rfl, rfl, rfl⟩ ⟨by decide, by decide⟩ ⟨Nat.zero_le _, Nat.zero_le _⟩ (mGrows f o A0 J (j + 2) (by omega) (by omega) hI (by have h1 : (tabs (j + 1)).length = _ := tabs_len (show j + 1 < 4 by omega); have h2 := lnT_le (show j + 1 < 4 by omega); show (tabs (j + 1)).length ≤ 280; omega)) ?_
    rintro _ _ ⟨rfl, A', m', rfl, hI'⟩
    iterate 2 (refine zv_step (bX7_clear 45) rfl rfl trivial ?_)
    exact ih (j + 1) (by omega) (nI_1 (j + 2)) hI'
set_option maxHeartbeats 1000000 in
set_option maxRecDepth 20000 in
theorem mClear (f : Nat → zC) (o : Nat → Int32) (A : Nat → Nat → Int32) (J : Nat → Nat → Int64) (hB : blI A) (x y : Int32) : zK 45 zX7_clear [.ref 76, .int x, .int y] (wR f o A J) (fun r w' => ∃ (o' : Nat → Int32) (A' : Nat → Nat → Int32) (R : Int32), r = some (.int R) ∧ w' = wR f o' A' J ∧ clX o A o' A') := by
  refine zK_of qX7_clear (by decide +kernel) rfl ?_
  iterate 1 (refine zv_step (bX7_clear 45) rfl rfl trivial ?_)
  refine zv_S1 (bX7_clear 45) rfl rfl rfl rfl ⟨rfl, rfl, rfl⟩ ⟨by decide, by decide⟩ ⟨Nat.zero_le _, Nat.zero_le _⟩ (hX7_isStyle _ _) ?_
  rintro _ _ ⟨rfl, ⟨g1, rfl⟩ | ⟨g1, rfl⟩⟩
  · obtain ⟨s, hs, rfl⟩ := in_nat (x := x) (b := 7) (by decide) g1
    replace hs : s < 8 := by omega
    iterate 1 (refine zv_step (bX7_clear 45) rfl rfl trivial ?_)
    refine zv_iff (by decide) ?_
    iterate 4 (refine zv_step (bX7_clear 45) rfl rfl trivial ?_)
    refine zv_S3 (bX7_clear 45) rfl rfl rfl rfl ⟨rfl, rfl, rfl⟩ ⟨by decide, by decide⟩ ⟨Nat.zero_le _, Nat.zero_le _⟩ (mIn _ _ _ _ (a := 1) (b := 4) (by decide) (by decide)) ?_
    rintro _ _ ⟨rfl, ⟨g2, rfl⟩ | ⟨g2, rfl⟩⟩
    · obtain ⟨n, hn, rfl⟩ := in_nat (x := y) (b := 4) (by decide) ⟨by omega, by omega⟩
      rw [nI_toInt (by omega)] at g2
      iterate 1 (refine zv_step (bX7_clear 45) rfl rfl trivial ?_)
      refine zv_ift (by decide) ?_
      have I0 : gI A [] A 0 := ⟨rfl, (fun a k v x y z h => by cases h), (fun a => by unfold szT; rw [List.getElem?_nil]; decide), fun _ _ => rfl, fun n h1 h2 => absurd h2 (by omega), fun _ _ _ => rfl, fun n h1 h2 => absurd h2 (by omega)⟩
      have I1 := gI_snoc (k := 0) (v := Int32.ofInt 0) (x := c8 (-2)) (y := c8 (-2)) (xi := 0) (yi := 0) (z := 1) I0 (fun h => absurd h (by decide)) (fun h => absurd h (by decide)) (by rw [rdv_m2]; decide) (by decide) (by decide) (by decide) (Or.inl ⟨by decide, rfl, rfl⟩) ⟨fun _ => ⟨0, by decide, rfl⟩, fun _ => ⟨0, by decide, rfl⟩, fun h => absurd h (by decide)⟩ (fun h => absurd h (by decide))
      have I2 := gI_snoc (k := 1) (v := Int32.ofInt 1) (x := c8 (-2)) (y := c8 (-2)) (xi := 0) (yi := 0) (z := 1) I1 (fun h => absurd h (by decide)) (fun h => absurd h (by decide)) (by rw [rdv_m2]; decide) (by decide) (by decide) (by decide) (Or.inl ⟨by decide, rfl, rfl⟩) ⟨fun _ => ⟨1, by decide, rfl⟩, fun _ => ⟨1, by decide, rfl⟩, fun h => absurd h (by decide)⟩ (fun h => rfl)
      have hj : n - 1 < 4 := by omega
      have hTl := tabs_len hj
      have hT2 := lnT_le hj
      iterate 8 (refine zv_step (bX7_clear 45) rfl rfl trivial ?_)
      refine zv_V4 (bX7_clear 45) rfl rfl rfl rfl rfl rfl rfl ⟨rfl, rfl, rfl⟩ ⟨by decide, by decide⟩ ⟨Nat.zero_le _, Nat.zero_le _⟩ (mAdds f (upd o 23 (Int32.ofInt 0)) (A) J (n := 0) rfl (by decide) vpm2 vpm2) ?_
      rintro _ _ ⟨rfl, rfl⟩
      iterate 5 (refine zv_step (bX7_clear 45) rfl rfl trivial ?_)
      refine zv_V4 (bX7_clear 45) rfl rfl rfl rfl rfl rfl rfl ⟨rfl, rfl, rfl⟩ ⟨by decide, by decide⟩ ⟨Nat.zero_le _, Nat.zero_le _⟩ (mAdds f (upd o 23 (nI 1)) (setsA A (120 + 0) (nI 0) (Int32.ofInt 0) (c8 (-2)) (c8 (-2))) J (n := 1) rfl (by decide) vpm2 vpm2) ?_
      rintro _ _ ⟨rfl, rfl⟩
      iterate 2 (refine zv_step (bX7_clear 45) rfl rfl trivial ?_)
      refine clrG f o A J hn (fun A1 m hI => ?_) (n - 1) 0 (by omega) rfl I2
      iterate 2 (refine zv_step (bX7_clear 45) rfl rfl trivial ?_)
      have hm : m = lnT (n - 1) := hI.1.trans hTl
      have hS : smI m A1 := ⟨hI.2.2.2.2.1, fun x h1 h2 => by
        have e := gI_szN hI (a := x - 120) (by rw [← hI.1]; omega)
        rw [show 120 + (x - 120) = x by omega] at e
        rw [e]
        exact tabs_sz hj _, hI.2.2.2.2.2.2, fun i => by rw [hI.2.2.2.1 6 (by decide)]; exact hB.1 i, fun i => by rw [hI.2.2.2.1 7 (by decide)]; exact hB.2 i⟩
      refine clrL1 f J (o0 := o) (A0 := A) hs (show m ≤ 280 by omega) (fun o2 A2 ho2 hS2 hM2 hc2 => ?_) m 0 (upd o 23 (nI m)) A1 (by omega) rfl hS (fun b hb => absurd hb (by omega)) ⟨fun j hj => upd_ne _ _ (by omega), fun r i a b => hI.2.2.2.2.2.1 r i a, fun r a b => hI.2.2.2.1 r a⟩ rfl
      iterate 2 (refine zv_step (bX7_clear 45) rfl rfl trivial ?_)
      refine clrL3 f o2 A2 J (by omega) ho2 hM2 (fun v => ⟨o2, A2, v, rfl, rfl, hc2⟩) m 0 (by omega) rfl
    · skip
      iterate 1 (refine zv_step (bX7_clear 45) rfl rfl trivial ?_)
      refine zv_iff (by decide) ?_
      iterate 1 (refine zv_step (bX7_clear 45) rfl rfl trivial ?_)
      exact zv_iret (bX7_clear 45) rfl (Or.inl rfl) (Nat.zero_le _) (Nat.zero_le _) ⟨o, A, _, rfl, rfl, clX_refl o A⟩
  · skip
    iterate 1 (refine zv_step (bX7_clear 45) rfl rfl trivial ?_)
    refine zv_ift (by decide) ?_
    iterate 1 (refine zv_step (bX7_clear 45) rfl rfl trivial ?_)
    exact zv_iret (bX7_clear 45) rfl (Or.inl rfl) (Nat.zero_le _) (Nat.zero_le _) ⟨o, A, _, rfl, rfl, clX_refl o A⟩
end
section
def cap : Nat := 1000000000000000
theorem lN_T {n : Nat} (h : n < 2 ^ 62) : (lN n).toInt = (n : Int) := lg_ofNat_toInt (by omega)
theorem lN_leJ {a b : Nat} (ha : a < 2 ^ 62) (hb : b < 2 ^ 62) : lN a ≤ lN b ↔ a ≤ b := by
  rw [Int64.le_iff_toInt_le, lN_T ha, lN_T hb]
  omega
theorem lN_ltJ {a b : Nat} (ha : a < 2 ^ 62) (hb : b < 2 ^ 62) : lN a < lN b ↔ a < b := by
  rw [Int64.lt_iff_toInt_lt, lN_T ha, lN_T hb]
  omega
theorem lN_eqJ {a b : Nat} (ha : a < 2 ^ 62) (hb : b < 2 ^ 62) : lN a = lN b ↔ a = b := by
  rw [← Int64.toInt_inj, lN_T ha, lN_T hb]
  omega
theorem lN_divJ {a b : Nat} (ha : a < 2 ^ 62) (hb : b < 2 ^ 62) : lN a / lN b = lN (a / b) := by
  have hq : a / b ≤ a := Nat.div_le_self a b
  rw [← Int64.toInt_inj, lN_T (by omega), Int64.toInt_div, lN_T ha, lN_T hb, ← Int.ofNat_tdiv]
  generalize a / b = c at hq ⊢
  exact Int.bmod_eq_of_le (by omega) (by omega)
theorem lN_cl {n : Nat} (h : n < 2 ^ 62) : (lN n).toInt.toNat = n := by
  rw [lN_T h]
  omega
def plW (a b : Nat) : Nat := if a + b ≤ cap then a + b else cap
def tmW (a b : Nat) : Nat := if a * b ≤ cap then a * b else cap
theorem plW_le (a b : Nat) : plW a b ≤ cap ∧ plW a b ≤ a + b := by
  unfold plW
  split <;> omega
theorem tmW_le (a b : Nat) : tmW a b ≤ cap ∧ tmW a b ≤ a * b := by
  unfold tmW
  split
  · exact ⟨by assumption, Nat.le_refl _⟩
  · exact ⟨Nat.le_refl _, by omega⟩
section ZLA
variable {M : zM} {al : Bool} {n0 kc ks pc nxt a b : Nat} {c0 : Int} {l : zL} {st : List Value} {w : zW} {Q : Option Value → zW → Prop} {tb : List zE}
theorem zv_lale (ok : zTb M tb) (hlook : zlook tb pc = some (.laload, nxt, a, b, c0)) {k n : Nat} {f : Nat → Int64} {i : Int32} {v : Int64} (hw : w[k]? = some (zJ n f)) (hi : vp_in i n) (hv : f i.toNatClampNeg = v) (kk : zV M al n0 kc ks nxt l (.long v :: st) w Q) : zV M al n0 kc ks pc l (.int i :: .ref k :: st) w Q := by
  subst hv
  exact zv_lald ok hlook hw hi kk
end ZLA
theorem cap_e : Int64.ofInt 1000000000000000 = lN cap := by decide +kernel
theorem l_0 : Int64.ofNat ((0 : Fin 2) : Nat) = lN 0 := rfl
theorem tm_0 {a b : Nat} (h : a = 0) : some (Value.long (lN a * lN b)) = some (.long (lN (tmW a b))) := by
  subst h
  unfold tmW
  rw [if_pos (by rw [Nat.zero_mul]; exact Nat.zero_le _), lN_mul]
theorem tm_1 {a b : Nat} (h : a ≠ 0) (hb : b ≤ cap / a) : some (Value.long (lN a * lN b)) = some (.long (lN (tmW a b))) := by
  have q : a * b ≤ cap := by
    rw [Nat.mul_comm]
    exact (Nat.le_div_iff_mul_le (by omega)).mp hb
  unfold tmW
  rw [if_pos q, lN_mul]
theorem tm_2 {a b : Nat} (h : a ≠ 0) (hb : ¬ b ≤ cap / a) : some (Value.long (Int64.ofInt 1000000000000000)) = some (.long (lN (tmW a b))) := by
  have q : ¬ a * b ≤ cap := fun e => hb ((Nat.le_div_iff_mul_le (by omega)).mpr (by rw [Nat.mul_comm]; exact e))
  unfold tmW
  rw [if_neg q, cap_e]
set_option maxHeartbeats 1000000 in
set_option maxRecDepth 20000 in
theorem mMul (w : zW) {a b : Nat} (ha : a ≤ cap) (hb : b ≤ cap) : zK 0 zX7_times_ [.long (lN a), .long (lN b)] w (fun r w' => w' = w ∧ r = some (.long (lN (tmW a b)))) := by
  refine zK_of qX7_times_ (by decide +kernel) rfl ?_
  iterate 4 (refine zv_step (bX7_times_ 0) rfl rfl trivial ?_)
  refine zv_ifb (fun h3 => ?_) (fun h3 => ?_)
  · have q3 : a = 0 := by
      rw [lg_cmp_eq] at h3
      exact (lN_eqJ (by unfold cap at *; omega) (by decide)).mp h3
    iterate 3 (refine zv_step (bX7_times_ 0) rfl rfl trivial ?_)
    exact zv_lret (bX7_times_ 0) rfl rfl (Nat.zero_le _) (Nat.zero_le _) ⟨rfl, tm_0 q3⟩
  · have q3 : a ≠ 0 := fun e => h3 (by rw [lg_cmp_eq, e]; rfl)
    iterate 3 (refine zv_step (bX7_times_ 0) rfl rfl trivial ?_)
    refine zv_step (bX7_times_ 0) rfl rfl (fun e => q3 ((lN_eqJ (by unfold cap at *; omega) (by decide)).mp e)) ?_
    iterate 2 (refine zv_step (bX7_times_ 0) rfl rfl trivial ?_)
    refine zv_ifb (fun h13 => ?_) (fun h13 => ?_)
    · have q13 : b ≤ cap / a := by
        have hd : cap / a ≤ cap := Nat.div_le_self _ _
        rw [lg_cmp_le] at h13
        have h9 : lN b ≤ Int64.ofInt 1000000000000000 / lN a := h13
        rw [cap_e, lN_divJ (by unfold cap; omega) (by unfold cap at *; omega), lN_leJ (by unfold cap at *; omega) (by unfold cap at *; omega)] at h9
        exact h9
      iterate 3 (refine zv_step (bX7_times_ 0) rfl rfl trivial ?_)
      exact zv_lret (bX7_times_ 0) rfl rfl (Nat.zero_le _) (Nat.zero_le _) ⟨rfl, tm_1 q3 q13⟩
    · have q13 : ¬ b ≤ cap / a := fun e => h13 (by
        have hd : cap / a ≤ cap := Nat.div_le_self _ _
        rw [lg_cmp_le]
        show lN b ≤ Int64.ofInt 1000000000000000 / lN a
        rw [cap_e, lN_divJ (by unfold cap; omega) (by unfold cap at *; omega), lN_leJ (by unfold cap at *; omega) (by unfold cap at *; omega)]
        exact e)
      iterate 2 (refine zv_step (bX7_times_ 0) rfl rfl trivial ?_)
      exact zv_lret (bX7_times_ 0) rfl rfl (Nat.zero_le _) (Nat.zero_le _) ⟨rfl, tm_2 q3 q13⟩
theorem pl_1 {a b : Nat} (h : a + b ≤ cap) : some (Value.long (lN a + lN b)) = some (.long (lN (plW a b))) := by
  unfold plW
  rw [if_pos h, lN_add]
theorem pl_2 {a b : Nat} (h : ¬ a + b ≤ cap) : some (Value.long (Int64.ofInt 1000000000000000)) = some (.long (lN (plW a b))) := by
  unfold plW
  rw [if_neg h, cap_e]
set_option maxHeartbeats 1000000 in
set_option maxRecDepth 20000 in
theorem mPlus (w : zW) {a b : Nat} (ha : a ≤ cap) (hb : b ≤ cap) : zK 0 zX7_plus [.long (lN a), .long (lN b)] w (fun r w' => w' = w ∧ r = some (.long (lN (plW a b)))) := by
  refine zK_of qX7_plus (by decide +kernel) rfl ?_
  iterate 6 (refine zv_step (bX7_plus 0) rfl rfl trivial ?_)
  refine zv_ifb (fun h7 => ?_) (fun h7 => ?_)
  · have q7 : a + b ≤ cap := by
      rw [lg_cmp_le] at h7
      have h9 : lN a + lN b ≤ Int64.ofInt 1000000000000000 := h7
      rwa [cap_e, lN_add, lN_leJ (by unfold cap at *; omega) (by unfold cap at *; omega)] at h9
    iterate 3 (refine zv_step (bX7_plus 0) rfl rfl trivial ?_)
    exact zv_lret (bX7_plus 0) rfl rfl (Nat.zero_le _) (Nat.zero_le _) ⟨rfl, pl_1 q7⟩
  · have q7 : ¬ a + b ≤ cap := fun e => h7 (by
      rw [lg_cmp_le]
      show lN a + lN b ≤ Int64.ofInt 1000000000000000
      rwa [cap_e, lN_add, lN_leJ (by unfold cap at *; omega) (by unfold cap at *; omega)])
    iterate 2 (refine zv_step (bX7_plus 0) rfl rfl trivial ?_)
    exact zv_lret (bX7_plus 0) rfl rfl (Nat.zero_le _) (Nat.zero_le _) ⟨rfl, pl_2 q7⟩
def mayN (k : Nat) : Bool := decide (2 ≤ k) && decide (k ≤ 9) && decide (k ≠ 8)
/-- may a KIND be said so (b = 1: between begin and end) -/
def ltW (A : Nat → Nat → Int32) (s k b : Nat) : Bool := if s = 8 then (decide (b = 0) || mayN k) else decide (A 7 (10 * s + k) = nI b)
theorem ltW_8 {A : Nat → Nat → Int32} {s k b : Nat} (h : s = 8) : ltW A s k b = (decide (b = 0) || mayN k) := if_pos h
theorem ltW_n {A : Nat → Nat → Int32} {s k b : Nat} (h : s ≠ 8) : ltW A s k b = decide (A 7 (10 * s + k) = nI b) := if_neg h
set_option maxHeartbeats 1000000 in
set_option maxRecDepth 20000 in
theorem mIsLet (f : Nat → zC) (o : Nat → Int32) (A : Nat → Nat → Int32) (J : Nat → Nat → Int64) {s k b : Nat} (hs : s ≤ 8) (ho : o 28 = nI s) (hk : k < 10) (hb : b ≤ 1) : zK 1 zX7_isLet [.ref 76, .int (nI k), .int (nI b)] (wR f o A J) (fun r w' => w' = (wR f o A J) ∧ ((ltW A s k b = true ∧ r = some (.int 1)) ∨ (ltW A s k b = false ∧ r = some (.int 0)))) := by
  refine zK_of qX7_isLet (by decide +kernel) rfl ?_
  iterate 4 (refine zv_step (bX7_isLet 1) rfl rfl trivial ?_)
  refine zv_ifb (fun h6 => ?_) (fun h6 => ?_)
  · have q6 : s ≠ 8 := fun e => h6 (by show o 28 = c8 8; rw [ho, e]; rfl)
    iterate 8 (refine zv_step (bX7_isLet 1) rfl rfl trivial ?_)
    refine zv_zale (bX7_isLet 1) rfl rfl (show vp_in (c8 10 * o 28 + nI k) 90 by rw [ho, ix10]; exact vp_in_nI (by omega) (by decide)) (show A 7 (c8 10 * o 28 + nI k).toNatClampNeg = A 7 (10 * s + k) by rw [ho, ix10, nI_clamp (by omega)]) ?_
    iterate 2 (refine zv_step (bX7_isLet 1) rfl rfl trivial ?_)
    refine zv_ifb (fun h43 => ?_) (fun h43 => ?_)
    · iterate 1 (refine zv_step (bX7_isLet 1) rfl rfl trivial ?_)
      exact zv_iret (bX7_isLet 1) rfl (Or.inr ⟨rfl, Or.inl rfl⟩) (Nat.zero_le _) (Nat.zero_le _) ⟨rfl, Or.inr ⟨by rw [ltW_n q6]; exact decide_eq_false h43, rfl⟩⟩
    · iterate 2 (refine zv_step (bX7_isLet 1) rfl rfl trivial ?_)
      exact zv_iret (bX7_isLet 1) rfl (Or.inr ⟨rfl, Or.inr rfl⟩) (Nat.zero_le _) (Nat.zero_le _) ⟨rfl, Or.inl ⟨by rw [ltW_n q6]; exact decide_eq_true (Decidable.not_not.mp h43), rfl⟩⟩
  · have q6 : s = 8 := (nI_eq (by omega) (by decide)).mp (show nI s = nI 8 from by rw [← ho]; exact Decidable.not_not.mp h6)
    iterate 2 (refine zv_step (bX7_isLet 1) rfl rfl trivial ?_)
    refine zv_ifb (fun h10 => ?_) (fun h10 => ?_)
    · have q10 : b = 0 := (nI_eq (by omega) (by decide)).mp h10
      iterate 2 (refine zv_step (bX7_isLet 1) rfl rfl trivial ?_)
      exact zv_iret (bX7_isLet 1) rfl (Or.inr ⟨rfl, Or.inr rfl⟩) (Nat.zero_le _) (Nat.zero_le _) ⟨rfl, Or.inl ⟨by rw [ltW_8 q6, q10]; rfl, rfl⟩⟩
    · have q10 : b ≠ 0 := fun e => h10 (by rw [e]; rfl)
      iterate 1 (refine zv_step (bX7_isLet 1) rfl rfl trivial ?_)
      refine zv_S1 (bX7_isLet 1) rfl rfl rfl rfl ⟨rfl, rfl, rfl⟩ ⟨by decide, by decide⟩ ⟨Nat.zero_le _, Nat.zero_le _⟩ (hX7_mayKeep _ _) ?_
      rintro _ _ ⟨rfl, ⟨g1, rfl⟩ | ⟨g1, rfl⟩⟩
      · have q14 : mayN k = true := by
          rw [nI_toInt (by omega)] at g1
          unfold mayN
          simp only [Bool.and_eq_true, decide_eq_true_eq]
          omega
        iterate 1 (refine zv_step (bX7_isLet 1) rfl rfl trivial ?_)
        refine zv_iff (by decide) ?_
        iterate 2 (refine zv_step (bX7_isLet 1) rfl rfl trivial ?_)
        exact zv_iret (bX7_isLet 1) rfl (Or.inr ⟨rfl, Or.inr rfl⟩) (Nat.zero_le _) (Nat.zero_le _) ⟨rfl, Or.inl ⟨by rw [ltW_8 q6, q14, Bool.or_true], rfl⟩⟩
      · have q14 : mayN k = false := by
          rw [nI_toInt (by omega)] at g1
          unfold mayN
          simp only [Bool.and_eq_false_iff, decide_eq_false_iff_not]
          omega
        iterate 1 (refine zv_step (bX7_isLet 1) rfl rfl trivial ?_)
        refine zv_ift (by decide) ?_
        iterate 2 (refine zv_step (bX7_isLet 1) rfl rfl trivial ?_)
        exact zv_iret (bX7_isLet 1) rfl (Or.inr ⟨rfl, Or.inl rfl⟩) (Nat.zero_le _) (Nat.zero_le _) ⟨rfl, Or.inr ⟨by rw [ltW_8 q6, q14, Bool.or_false]; exact decide_eq_false q10, rfl⟩⟩
def eW (A : Nat → Nat → Int32) (i : Nat) : Nat := (A 8 i).toNatClampNeg
theorem eW_of {A : Nat → Nat → Int32} {h i : Nat} (hw : nnW h (A 8)) (hi : i < h) : A 8 i = nI (eW A i) ∧ eW A i ≤ 31 := by
  obtain ⟨e, he, q⟩ := hw i hi
  unfold eW
  rw [q, nI_clamp (by omega)]
  exact ⟨rfl, he⟩
def numAll (E : Nat → Nat) : Nat → Nat → Bool
  | 0, _ => true
  | c + 1, k => (decide (10 ≤ E k) && decide (E k ≤ 19)) && numAll E c (k + 1)
def isNumB (E : Nat → Nat) (i j : Nat) : Bool := (decide (j - i ≤ 4) && (decide (E i ≠ 10) || decide (j - i = 1))) && numAll E (j - i) i
set_option maxHeartbeats 1000000 in
set_option maxRecDepth 20000 in
theorem numL0 (f : Nat → zC) (o : Nat → Int32) (A : Nat → Nat → Int32) (J : Nat → Nat → Int64) {i j : Nat} {x : Int32} {n0 : Nat} {Q : Option Value → zW → Prop} (hQ : Q (some (.int 0)) (wR f o A J)) : zV (zMo 1 zX7_isNumber) false n0 0 0 41 [(4, .int x), (3, .int 0), (0, .ref 76), (1, .int (nI i)), (2, .int (nI j))] [] (wR f o A J) Q := by
  iterate 3 (refine zv_step (bX7_isNumber 1) rfl rfl trivial ?_)
  refine zv_ifb (fun h44 => ?_) (fun h44 => ?_)
  · iterate 1 (refine zv_step (bX7_isNumber 1) rfl rfl trivial ?_)
    exact zv_iret (bX7_isNumber 1) rfl (Or.inr ⟨rfl, Or.inl rfl⟩) (Nat.zero_le _) (Nat.zero_le _) hQ
  · iterate 2 (refine zv_step (bX7_isNumber 1) rfl rfl trivial ?_)
    refine zv_ift (by decide) ?_
    iterate 1 (refine zv_step (bX7_isNumber 1) rfl rfl trivial ?_)
    exact zv_iret (bX7_isNumber 1) rfl (Or.inr ⟨rfl, Or.inl rfl⟩) (Nat.zero_le _) (Nat.zero_le _) hQ
set_option maxHeartbeats 1000000 in
set_option maxRecDepth 20000 in
theorem numL (f : Nat → zC) (o : Nat → Int32) (A : Nat → Nat → Int32) (J : Nat → Nat → Int64) {h : Nat} (hh : h ≤ 20) (hw : nnW h (A 8)) {i j : Nat} (hj : j ≤ h) {n0 : Nat} {Q : Option Value → zW → Prop} : ∀ (c k : Nat), k + c = j → ∀ {x4 : Int32}, x4 = nI k → (numAll (eW A) c k = true → Q (some (.int 1)) (wR f o A J)) → (numAll (eW A) c k = false → Q (some (.int 0)) (wR f o A J)) → zV (zMo 1 zX7_isNumber) false n0 0 0 41 [(4, .int x4), (3, .int 1), (0, .ref 76), (1, .int (nI i)), (2, .int (nI j))] [] (wR f o A J) Q := by
  intro c
  induction c with
  | zero =>
    intro k hk x4 e4 hQ hQ0
    subst e4
    iterate 3 (refine zv_step (bX7_isNumber 1) rfl rfl trivial ?_)
    refine zv_ift (nI_le (by omega) (by omega)) ?_
    iterate 1 (refine zv_step (bX7_isNumber 1) rfl rfl trivial ?_)
    exact zv_iret (bX7_isNumber 1) rfl (Or.inr ⟨rfl, Or.inr rfl⟩) (Nat.zero_le _) (Nat.zero_le _) (hQ rfl)
  | succ c ih =>
    intro k hk x4 e4 hQ hQ0
    subst e4
    iterate 3 (refine zv_step (bX7_isNumber 1) rfl rfl trivial ?_)
    refine zv_iff (fun h => absurd ((nI_leI (by omega) (by omega)).mp h) (by omega)) ?_
    iterate 2 (refine zv_step (bX7_isNumber 1) rfl rfl trivial ?_)
    refine zv_iff (by decide) ?_
    iterate 3 (refine zv_step (bX7_isNumber 1) rfl rfl trivial ?_)
    refine zv_iale (bX7_isNumber 1) rfl rfl (vp_in_nI (by omega) (by decide)) (show A 8 (nI k).toNatClampNeg = nI (eW A k) by rw [nI_clamp (by omega)]; exact (eW_of hw (by omega)).1) ?_
    iterate 3 (refine zv_step (bX7_isNumber 1) rfl rfl trivial ?_)
    refine zv_S3 (bX7_isNumber 1) rfl rfl rfl rfl ⟨rfl, rfl, rfl⟩ ⟨by decide, by decide⟩ ⟨Nat.zero_le _, Nat.zero_le _⟩ (mIn _ _ _ _ (a := 10) (b := 19) (by decide) (by decide)) ?_
    rintro _ _ ⟨rfl, ⟨g1, rfl⟩ | ⟨g1, rfl⟩⟩
    · have q1 : (decide (10 ≤ eW A k) && decide (eW A k ≤ 19)) = true := by
        have := (eW_of hw (show k < h by omega)).2
        rw [nI_toInt (by omega)] at g1
        simp only [Bool.and_eq_true, decide_eq_true_eq]
        omega
      iterate 3 (refine zv_step (bX7_isNumber 1) rfl rfl trivial ?_)
      have e9 : numAll (eW A) (c + 1) k = numAll (eW A) c (k + 1) := by
        show (_ && _) = _
        rw [q1, Bool.true_and]
      rw [e9] at hQ hQ0
      refine zv_locals (l := [(4, .int (nI k + Int32.ofInt 1)), (3, .int 1), (0, .ref 76), (1, .int (nI i)), (2, .int (nI j))]) (l' := [(4, .int (nI k + Int32.ofInt 1)), (3, .int 1), (0, .ref 76), (1, .int (nI i)), (2, .int (nI j))]) (fun q h => h) (ih (k + 1) (by omega) (nI_1 k) hQ hQ0)
    · have q1 : (decide (10 ≤ eW A k) && decide (eW A k ≤ 19)) = false := by
        have := (eW_of hw (show k < h by omega)).2
        rw [nI_toInt (by omega)] at g1
        simp only [Bool.and_eq_false_iff, decide_eq_false_iff_not]
        omega
      iterate 3 (refine zv_step (bX7_isNumber 1) rfl rfl trivial ?_)
      have e9 : numAll (eW A) (c + 1) k = false := by
        show (_ && _) = _
        rw [q1, Bool.false_and]
      refine zv_locals (l := [(4, .int (nI k + Int32.ofInt 1)), (3, .int 0), (0, .ref 76), (1, .int (nI i)), (2, .int (nI j))]) (l' := [(4, .int (nI k + Int32.ofInt 1)), (3, .int 0), (0, .ref 76), (1, .int (nI i)), (2, .int (nI j))]) (fun q h => h) (numL0 f o A J (hQ0 e9))
set_option maxHeartbeats 1000000 in
set_option maxRecDepth 20000 in
theorem mIsNumber (f : Nat → zC) (o : Nat → Int32) (A : Nat → Nat → Int32) (J : Nat → Nat → Int64) {h : Nat} (hh : h ≤ 20) (hw : nnW h (A 8)) {i j : Nat} (hij : i < j) (hj : j ≤ h) : zK 1 zX7_isNumber [.ref 76, .int (nI i), .int (nI j)] (wR f o A J) (fun r w' => w' = (wR f o A J) ∧ ((isNumB (eW A) i j = true ∧ r = some (.int 1)) ∨ (isNumB (eW A) i j = false ∧ r = some (.int 0)))) := by
  refine zK_of qX7_isNumber (by decide +kernel) rfl ?_
  iterate 5 (refine zv_step (bX7_isNumber 1) rfl rfl trivial ?_)
  refine zv_iff (show ¬ nI j - nI i < nI 1 by rw [nI_sub (a := j) (b := i) (by omega)]; exact nI_nlt (by omega) (by omega)) ?_
  iterate 5 (refine zv_step (bX7_isNumber 1) rfl rfl trivial ?_)
  refine zv_ifb (fun h11 => ?_) (fun h11 => ?_)
  · have q11 : 4 < j - i := by
      have h9 : nI 4 < nI j - nI i := h11
      rwa [nI_sub (a := j) (b := i) (by omega), nI_ltI (by decide) (by omega)] at h9
    iterate 4 (refine zv_step (bX7_isNumber 1) rfl rfl trivial ?_)
    refine zv_locals (l := [(4, .int (nI i)), (3, .int (Int32.ofInt 0)), (0, .ref 76), (1, .int (nI i)), (2, .int (nI j))]) (l' := [(4, .int (nI i)), (3, .int 0), (0, .ref 76), (1, .int (nI i)), (2, .int (nI j))]) (fun q h => h) (numL0 f o A J ⟨rfl, Or.inr ⟨by unfold isNumB; rw [decide_eq_false (by omega), Bool.false_and, Bool.false_and], rfl⟩⟩)
  · have q11 : ¬ 4 < j - i := fun e => h11 (by show nI 4 < nI j - nI i; rwa [nI_sub (a := j) (b := i) (by omega), nI_ltI (by decide) (by omega)])
    iterate 3 (refine zv_step (bX7_isNumber 1) rfl rfl trivial ?_)
    refine zv_iale (bX7_isNumber 1) rfl rfl (vp_in_nI (by omega) (by decide)) (show A 8 (nI i).toNatClampNeg = nI (eW A i) by rw [nI_clamp (by omega)]; exact (eW_of hw (by omega)).1) ?_
    iterate 2 (refine zv_step (bX7_isNumber 1) rfl rfl trivial ?_)
    refine zv_ifb (fun h22 => ?_) (fun h22 => ?_)
    · have q22 : eW A i ≠ 10 := fun e => h22 (by rw [e]; rfl)
      iterate 5 (refine zv_step (bX7_isNumber 1) rfl rfl trivial ?_)
      have e9 : isNumB (eW A) i j = numAll (eW A) (j - i) i := by
        unfold isNumB
        rw [show (decide (j - i ≤ 4) && (decide (eW A i ≠ 10) || decide (j - i = 1))) = true by rw [decide_eq_true (by omega), decide_eq_true q22, Bool.true_or]; rfl, Bool.true_and]
      refine zv_locals (l := [(4, .int (nI i)), (3, .int (Int32.ofInt 1)), (0, .ref 76), (1, .int (nI i)), (2, .int (nI j))]) (l' := [(4, .int (nI i)), (3, .int 1), (0, .ref 76), (1, .int (nI i)), (2, .int (nI j))]) (fun q h => h) (numL f o A J hh hw hj (j - i) i (by omega) rfl (fun q => ⟨rfl, Or.inl ⟨e9.trans q, rfl⟩⟩) (fun q => ⟨rfl, Or.inr ⟨e9.trans q, rfl⟩⟩))
    · have q22 : eW A i = 10 := (nI_eq (by have := (eW_of hw (show i < h by omega)).2; omega) (by decide)).mp (Decidable.not_not.mp h22)
      iterate 5 (refine zv_step (bX7_isNumber 1) rfl rfl trivial ?_)
      refine zv_ifb (fun h29 => ?_) (fun h29 => ?_)
      · have q29 : ¬ j - i = 1 := fun e => h29 (by show nI j - nI i = nI 1; rw [nI_sub (a := j) (b := i) (by omega), e])
        iterate 4 (refine zv_step (bX7_isNumber 1) rfl rfl trivial ?_)
        refine zv_locals (l := [(4, .int (nI i)), (3, .int (Int32.ofInt 0)), (0, .ref 76), (1, .int (nI i)), (2, .int (nI j))]) (l' := [(4, .int (nI i)), (3, .int 0), (0, .ref 76), (1, .int (nI i)), (2, .int (nI j))]) (fun q h => h) (numL0 f o A J ⟨rfl, Or.inr ⟨by unfold isNumB; rw [decide_eq_false (p := eW A i ≠ 10) (fun h => h q22), decide_eq_false q29, Bool.false_or, Bool.and_false, Bool.false_and], rfl⟩⟩)
      · have q29 : j - i = 1 := by
          have h9 : nI j - nI i = nI 1 := Decidable.not_not.mp h29
          rwa [nI_sub (a := j) (b := i) (by omega), nI_eq (by omega) (by decide)] at h9
        iterate 5 (refine zv_step (bX7_isNumber 1) rfl rfl trivial ?_)
        have e9 : isNumB (eW A) i j = numAll (eW A) (j - i) i := by
          unfold isNumB
          rw [show (decide (j - i ≤ 4) && (decide (eW A i ≠ 10) || decide (j - i = 1))) = true by rw [decide_eq_true (by omega), decide_eq_true q29, Bool.or_true]; rfl, Bool.true_and]
        refine zv_locals (l := [(4, .int (nI i)), (3, .int (Int32.ofInt 1)), (0, .ref 76), (1, .int (nI i)), (2, .int (nI j))]) (l' := [(4, .int (nI i)), (3, .int 1), (0, .ref 76), (1, .int (nI i)), (2, .int (nI j))]) (fun q h => h) (numL f o A J hh hw hj (j - i) i (by omega) rfl (fun q => ⟨rfl, Or.inl ⟨e9.trans q, rfl⟩⟩) (fun q => ⟨rfl, Or.inr ⟨e9.trans q, rfl⟩⟩))
end
section
def wiP (E : Nat → Nat) (L : Nat → Nat → Nat) (k i j : Nat) : Nat → Nat → Nat → Nat
  | 0, _, n => n
  | c + 1, m, n => wiP E L k i j c (m + 1) (if E m = 18 + k then plW n (tmW (L i m) (L (m + 1) j)) else n)
/-- in how many ways a span is said by a NODE of KIND k without begin and end -/
def wi (E : Nat → Nat) (G : Nat → Int32) (L : Nat → Nat → Nat) (k i j : Nat) : Nat :=
  if j ≤ i then 0 else
  if k = 0 then (if j - i = 1 ∧ E i < 10 ∧ G (E i) = 0 then 1 else 0) else
  if k = 1 then (if isNumB E i j = true then 1 else 0) else
  if k ≤ 6 then wiP E L k i j (j - 1 - (i + 1)) (i + 1) 0 else
  if k = 7 then (if E i = 25 ∧ 1 < j - i then L (i + 1) j else 0) else
  if k = 8 then (if E i = 26 ∧ E (j - 1) = 27 ∧ 2 < j - i then L (i + 1) (j - 1) else 0) else
  (if E i < 10 ∧ ¬ G (E i) = 0 ∧ 2 < j - i ∧ E (i + 1) = 28 then L (i + 2) j else 0)
theorem wi_n {E : Nat → Nat} {G : Nat → Int32} {L : Nat → Nat → Nat} {k i j : Nat} (h : j ≤ i) : wi E G L k i j = 0 := if_pos h
theorem wi_0 {E : Nat → Nat} {G : Nat → Int32} {L : Nat → Nat → Nat} {i j : Nat} (h : i < j) : wi E G L 0 i j = if j - i = 1 ∧ E i < 10 ∧ G (E i) = 0 then 1 else 0 := by
  unfold wi
  rw [if_neg (by omega), if_pos rfl]
theorem wi_1 {E : Nat → Nat} {G : Nat → Int32} {L : Nat → Nat → Nat} {i j : Nat} (h : i < j) : wi E G L 1 i j = if isNumB E i j = true then 1 else 0 := by
  unfold wi
  rw [if_neg (by omega), if_neg (by decide), if_pos rfl]
theorem wi_2 {E : Nat → Nat} {G : Nat → Int32} {L : Nat → Nat → Nat} {k i j : Nat} (h : i < j) (k2 : 2 ≤ k) (k6 : k ≤ 6) : wi E G L k i j = wiP E L k i j (j - 1 - (i + 1)) (i + 1) 0 := by
  unfold wi
  rw [if_neg (by omega), if_neg (by omega), if_neg (by omega), if_pos k6]
theorem wi_7 {E : Nat → Nat} {G : Nat → Int32} {L : Nat → Nat → Nat} {i j : Nat} (h : i < j) : wi E G L 7 i j = if E i = 25 ∧ 1 < j - i then L (i + 1) j else 0 := by
  unfold wi
  rw [if_neg (by omega), if_neg (by decide), if_neg (by decide), if_neg (by decide), if_pos rfl]
theorem wi_8 {E : Nat → Nat} {G : Nat → Int32} {L : Nat → Nat → Nat} {i j : Nat} (h : i < j) : wi E G L 8 i j = if E i = 26 ∧ E (j - 1) = 27 ∧ 2 < j - i then L (i + 1) (j - 1) else 0 := by
  unfold wi
  rw [if_neg (by omega), if_neg (by decide), if_neg (by decide), if_neg (by decide), if_neg (by decide), if_pos rfl]
theorem wi_9 {E : Nat → Nat} {G : Nat → Int32} {L : Nat → Nat → Nat} {i j : Nat} (h : i < j) : wi E G L 9 i j = if E i < 10 ∧ ¬ G (E i) = 0 ∧ 2 < j - i ∧ E (i + 1) = 28 then L (i + 2) j else 0 := by
  unfold wi
  rw [if_neg (by omega), if_neg (by decide), if_neg (by decide), if_neg (by decide), if_neg (by decide), if_neg (by decide)]
theorem wiP_le {E : Nat → Nat} {L : Nat → Nat → Nat} {k i j : Nat} : ∀ (c m n : Nat), n ≤ cap → wiP E L k i j c m n ≤ cap
  | 0, _, n, h => h
  | c + 1, m, n, h => by
    show wiP E L k i j c (m + 1) _ ≤ cap
    refine wiP_le c (m + 1) _ ?_
    split
    · exact (plW_le _ _).1
    · exact h
/-- the table of sums holds L for all spans within i .. j that are shorter -/
def okL (J : Nat → Nat → Int64) (L : Nat → Nat → Nat) (i j : Nat) : Prop := ∀ a b, i ≤ a → a < b → b ≤ j → b - a < j - i → J 1 (21 * a + b) = lN (L a b) ∧ L a b ≤ cap
theorem wi_le {E : Nat → Nat} {G : Nat → Int32} {J : Nat → Nat → Int64} {L : Nat → Nat → Nat} {k i j : Nat} (hL : okL J L i j) : wi E G L k i j ≤ cap := by
  unfold wi
  split
  · exact Nat.zero_le _
  · split
    · split <;> decide
    · split
      · split <;> decide
      · split
        · exact wiP_le _ _ _ (Nat.zero_le _)
        · split
          · split
            · exact (hL (i + 1) j (by omega) (by omega) (by omega) (by omega)).2
            · exact Nat.zero_le _
          · split
            · split
              · exact (hL (i + 1) (j - 1) (by omega) (by omega) (by omega) (by omega)).2
              · exact Nat.zero_le _
            · split
              · exact (hL (i + 2) j (by omega) (by omega) (by omega) (by omega)).2
              · exact Nat.zero_le _
theorem ix21 {a b : Nat} : c8 21 * nI a + nI b = nI (21 * a + b) := by
  show Int32.ofNat 21 * Int32.ofNat a + Int32.ofNat b = _
  rw [← Int32.ofNat_mul, ← Int32.ofNat_add]
  rfl
set_option maxHeartbeats 1000000 in
set_option maxRecDepth 20000 in
theorem mWi0 (f : Nat → zC) (o : Nat → Int32) (A : Nat → Nat → Int32) (J : Nat → Nat → Int64) {h : Nat} (hh : h ≤ 20) (hw : nnW h (A 8)) {i j : Nat} (hij : i < j) (hj : j ≤ h) {L : Nat → Nat → Nat} (hL : okL J L i j) : zK 2 zX7_within [.ref 76, .int (nI 0), .int (nI i), .int (nI j)] (wR f o A J) (fun r w' => w' = (wR f o A J) ∧ r = some (.long (lN (wi (eW A) (A 6) L 0 i j)))) := by
  refine zK_of qX7_within (by decide +kernel) rfl ?_
  iterate 3 (refine zv_step (bX7_within 2) rfl rfl trivial ?_)
  refine zv_ift (nI_lt (by omega) (by omega)) ?_
  iterate 2 (refine zv_step (bX7_within 2) rfl rfl trivial ?_)
  refine zv_iff (by decide) ?_
  iterate 5 (refine zv_step (bX7_within 2) rfl rfl trivial ?_)
  refine zv_ifb (fun h15 => ?_) (fun h15 => ?_)
  · have q15 : ¬ j - i = 1 := fun e => h15 (by show nI j - nI i = nI 1; rw [nI_sub (a := j) (b := i) (by omega), e])
    iterate 1 (refine zv_step (bX7_within 2) rfl rfl trivial ?_)
    exact zv_lret (bX7_within 2) rfl rfl (Nat.zero_le _) (Nat.zero_le _) ⟨rfl, by rw [wi_0 hij, if_neg (fun q => q15 q.1)] <;> rfl⟩
  · have q15 : j - i = 1 := by
      have h9 : nI j - nI i = nI 1 := Decidable.not_not.mp h15
      rwa [nI_sub (a := j) (b := i) (by omega), nI_eq (by omega) (by decide)] at h9
    iterate 3 (refine zv_step (bX7_within 2) rfl rfl trivial ?_)
    refine zv_iale (bX7_within 2) rfl rfl (vp_in_nI (by omega) (by decide)) (show A 8 (nI i).toNatClampNeg = nI (eW A (i)) by rw [nI_clamp (by omega)]; exact (eW_of hw (by omega)).1) ?_
    iterate 2 (refine zv_step (bX7_within 2) rfl rfl trivial ?_)
    refine zv_ifb (fun h26 => ?_) (fun h26 => ?_)
    · have q26 : ¬ eW A (i) < 10 := fun e => absurd (nI_lt e (by decide)) (Int32.not_lt.mpr h26)
      iterate 1 (refine zv_step (bX7_within 2) rfl rfl trivial ?_)
      exact zv_lret (bX7_within 2) rfl rfl (Nat.zero_le _) (Nat.zero_le _) ⟨rfl, by rw [wi_0 hij, if_neg (fun q => q26 q.2.1)] <;> rfl⟩
    · have q26 : eW A (i) < 10 := by
        have h9 : nI (eW A (i)) < nI 10 := Int32.not_le.mp h26
        have := (eW_of hw (show i < h by omega)).2
        rwa [nI_ltI (by omega) (by decide)] at h9
      iterate 5 (refine zv_step (bX7_within 2) rfl rfl trivial ?_)
      refine zv_iale (bX7_within 2) rfl rfl (vp_in_nI (by omega) (by decide)) (show A 8 (nI i).toNatClampNeg = nI (eW A (i)) by rw [nI_clamp (by omega)]; exact (eW_of hw (by omega)).1) ?_
      refine zv_zale (bX7_within 2) rfl rfl (show vp_in (nI (eW A i)) 10 from vp_in_nI (by omega) (by decide)) (show A 6 (nI (eW A i)).toNatClampNeg = A 6 (eW A i) by rw [nI_clamp (by omega)]) ?_
      iterate 1 (refine zv_step (bX7_within 2) rfl rfl trivial ?_)
      refine zv_ifb (fun h40 => ?_) (fun h40 => ?_)
      · iterate 1 (refine zv_step (bX7_within 2) rfl rfl trivial ?_)
        exact zv_lret (bX7_within 2) rfl rfl (Nat.zero_le _) (Nat.zero_le _) ⟨rfl, by rw [wi_0 hij, if_neg (fun q => h40 q.2.2)] <;> rfl⟩
      · iterate 2 (refine zv_step (bX7_within 2) rfl rfl trivial ?_)
        exact zv_lret (bX7_within 2) rfl rfl (Nat.zero_le _) (Nat.zero_le _) ⟨rfl, by rw [wi_0 hij, if_pos ⟨q15, q26, Decidable.not_not.mp h40⟩] <;> rfl⟩
set_option maxHeartbeats 1000000 in
set_option maxRecDepth 20000 in
theorem mWi1 (f : Nat → zC) (o : Nat → Int32) (A : Nat → Nat → Int32) (J : Nat → Nat → Int64) {h : Nat} (hh : h ≤ 20) (hw : nnW h (A 8)) {i j : Nat} (hij : i < j) (hj : j ≤ h) {L : Nat → Nat → Nat} (hL : okL J L i j) : zK 2 zX7_within [.ref 76, .int (nI 1), .int (nI i), .int (nI j)] (wR f o A J) (fun r w' => w' = (wR f o A J) ∧ r = some (.long (lN (wi (eW A) (A 6) L 1 i j)))) := by
  refine zK_of qX7_within (by decide +kernel) rfl ?_
  iterate 3 (refine zv_step (bX7_within 2) rfl rfl trivial ?_)
  refine zv_ift (nI_lt (by omega) (by omega)) ?_
  iterate 2 (refine zv_step (bX7_within 2) rfl rfl trivial ?_)
  refine zv_ift (by decide) ?_
  iterate 3 (refine zv_step (bX7_within 2) rfl rfl trivial ?_)
  refine zv_iff (by decide) ?_
  iterate 3 (refine zv_step (bX7_within 2) rfl rfl trivial ?_)
  refine zv_V2 (bX7_within 2) rfl rfl rfl rfl rfl rfl rfl ⟨rfl, rfl, rfl⟩ ⟨by decide, by decide⟩ ⟨Nat.zero_le _, Nat.zero_le _⟩ (mIsNumber f o A J hh hw hij hj) ?_
  rintro _ _ ⟨rfl, ⟨g1, rfl⟩ | ⟨g1, rfl⟩⟩
  · skip
    iterate 1 (refine zv_step (bX7_within 2) rfl rfl trivial ?_)
    refine zv_iff (by decide) ?_
    iterate 2 (refine zv_step (bX7_within 2) rfl rfl trivial ?_)
    exact zv_lret (bX7_within 2) rfl rfl (Nat.zero_le _) (Nat.zero_le _) ⟨rfl, by rw [wi_1 hij, if_pos g1] <;> rfl⟩
  · skip
    iterate 1 (refine zv_step (bX7_within 2) rfl rfl trivial ?_)
    refine zv_ift (by decide) ?_
    iterate 1 (refine zv_step (bX7_within 2) rfl rfl trivial ?_)
    exact zv_lret (bX7_within 2) rfl rfl (Nat.zero_le _) (Nat.zero_le _) ⟨rfl, by rw [wi_1 hij, if_neg (by rw [g1]; decide)] <;> rfl⟩
set_option maxHeartbeats 1000000 in
set_option maxRecDepth 20000 in
theorem withL (f : Nat → zC) (o : Nat → Int32) (A : Nat → Nat → Int32) (J : Nat → Nat → Int64) {h : Nat} (hh : h ≤ 20) (hw : nnW h (A 8)) {i j : Nat} (hij : i < j) (hj : j ≤ h) {L : Nat → Nat → Nat} (hL : okL J L i j) {k : Nat} (k2 : 2 ≤ k) (k6 : k ≤ 6) {n0 : Nat} : ∀ (c m n : Nat), j - 1 - m = c → i + 1 ≤ m → m ≤ 21 → n ≤ cap → ∀ {x6 : Int32}, x6 = nI m → zV (zMo 2 zX7_within) false n0 0 0 84 [(6, .int x6), (4, .long (lN n)), (0, .ref 76), (1, .int (nI k)), (2, .int (nI i)), (3, .int (nI j))] [] (wR f o A J) (fun r w' => w' = (wR f o A J) ∧ r = some (.long (lN (wiP (eW A) L k i j c m n)))) := by
  intro c
  induction c with
  | zero =>
    intro m n hc hm hm2 hn x6 e6
    subst e6
    iterate 5 (refine zv_step (bX7_within 2) rfl rfl trivial ?_)
    refine zv_ift (show nI j - Int32.ofInt 1 ≤ nI m by rw [sub_1 (by omega)]; exact nI_le (by omega) (by omega)) ?_
    iterate 1 (refine zv_step (bX7_within 2) rfl rfl trivial ?_)
    exact zv_lret (bX7_within 2) rfl rfl (Nat.zero_le _) (Nat.zero_le _) ⟨rfl, rfl⟩
  | succ c ih =>
    intro m n hc hm hm2 hn x6 e6
    subst e6
    iterate 5 (refine zv_step (bX7_within 2) rfl rfl trivial ?_)
    refine zv_iff (show ¬ nI j - Int32.ofInt 1 ≤ nI m by rw [sub_1 (by omega)]; exact fun h => absurd ((nI_leI (by omega) (by omega)).mp h) (by omega)) ?_
    iterate 3 (refine zv_step (bX7_within 2) rfl rfl trivial ?_)
    refine zv_iale (bX7_within 2) rfl rfl (vp_in_nI (by omega) (by decide)) (show A 8 (nI m).toNatClampNeg = nI (eW A (m)) by rw [nI_clamp (by omega)]; exact (eW_of hw (by omega)).1) ?_
    iterate 4 (refine zv_step (bX7_within 2) rfl rfl trivial ?_)
    refine zv_ifb (fun h103 => ?_) (fun h103 => ?_)
    · have q103 : ¬ eW A m = 18 + k := fun e => h103 (by show nI (eW A m) = nI 18 + nI k; rw [nI_add, e])
      iterate 4 (refine zv_step (bX7_within 2) rfl rfl trivial ?_)
      have e9 : wiP (eW A) L k i j (c + 1) m n = wiP (eW A) L k i j c (m + 1) (n) := by
        show wiP _ _ _ _ _ c (m + 1) _ = _
        rw [if_neg q103]
      rw [e9]
      refine zv_locals (l := [(6, .int (nI m + Int32.ofInt 1)), (4, .long (lN (n))), (0, .ref 76), (1, .int (nI k)), (2, .int (nI i)), (3, .int (nI j))]) (l' := [(6, .int (nI m + Int32.ofInt 1)), (4, .long (lN (n))), (0, .ref 76), (1, .int (nI k)), (2, .int (nI i)), (3, .int (nI j))]) (fun q h => h) (ih (m + 1) (n) (by omega) (by omega) (by omega) hn (nI_1 m))
    · have q103 : eW A m = 18 + k := by
        have h9 : nI (eW A m) = nI 18 + nI k := Decidable.not_not.mp h103
        have := (eW_of hw (show m < h by omega)).2
        rwa [nI_add, nI_eq (by omega) (by omega)] at h9
      iterate 8 (refine zv_step (bX7_within 2) rfl rfl trivial ?_)
      refine zv_lale (bX7_within 2) rfl rfl (show vp_in (c8 21 * nI i + nI m) 441 by rw [ix21]; exact vp_in_nI (by omega) (by decide)) (show J 1 (c8 21 * nI i + nI m).toNatClampNeg = lN (L (i) (m)) by rw [ix21, nI_clamp (by omega)]; exact (hL (i) (m) (by omega) (by omega) (by omega) (by omega)).1) ?_
      iterate 9 (refine zv_step (bX7_within 2) rfl rfl trivial ?_)
      refine zv_lale (bX7_within 2) rfl rfl (show vp_in (c8 21 * (nI m + Int32.ofInt 1) + nI j) 441 by rw [show nI m + Int32.ofInt 1 = nI (m + 1) from nI_1 m, ix21]; exact vp_in_nI (by omega) (by decide)) (show J 1 (c8 21 * (nI m + Int32.ofInt 1) + nI j).toNatClampNeg = lN (L (m + 1) (j)) by rw [show nI m + Int32.ofInt 1 = nI (m + 1) from nI_1 m, ix21, nI_clamp (by omega)]; exact (hL (m + 1) (j) (by omega) (by omega) (by omega) (by omega)).1) ?_
      refine zv_S2 (bX7_within 2) rfl rfl rfl rfl ⟨rfl, rfl, rfl⟩ ⟨by decide, by decide⟩ ⟨Nat.zero_le _, Nat.zero_le _⟩ (mMul _ (hL i m (by omega) (by omega) (by omega) (by omega)).2 (hL (m + 1) j (by omega) (by omega) (by omega) (by omega)).2) ?_
      rintro _ _ ⟨rfl, rfl⟩
      refine zv_S2 (bX7_within 2) rfl rfl rfl rfl ⟨rfl, rfl, rfl⟩ ⟨by decide, by decide⟩ ⟨Nat.zero_le _, Nat.zero_le _⟩ (mPlus _ hn (tmW_le _ _).1) ?_
      rintro _ _ ⟨rfl, rfl⟩
      iterate 4 (refine zv_step (bX7_within 2) rfl rfl trivial ?_)
      have e9 : wiP (eW A) L k i j (c + 1) m n = wiP (eW A) L k i j c (m + 1) (plW n (tmW (L i m) (L (m + 1) j))) := by
        show wiP _ _ _ _ _ c (m + 1) _ = _
        rw [if_pos q103]
      rw [e9]
      refine zv_locals (l := [(6, .int (nI m + Int32.ofInt 1)), (4, .long (lN (plW n (tmW (L i m) (L (m + 1) j))))), (0, .ref 76), (1, .int (nI k)), (2, .int (nI i)), (3, .int (nI j))]) (l' := [(6, .int (nI m + Int32.ofInt 1)), (4, .long (lN (plW n (tmW (L i m) (L (m + 1) j))))), (0, .ref 76), (1, .int (nI k)), (2, .int (nI i)), (3, .int (nI j))]) (fun q h => h) (ih (m + 1) (plW n (tmW (L i m) (L (m + 1) j))) (by omega) (by omega) (by omega) (plW_le _ _).1 (nI_1 m))
set_option maxHeartbeats 1000000 in
set_option maxRecDepth 20000 in
theorem mWi2 (f : Nat → zC) (o : Nat → Int32) (A : Nat → Nat → Int32) (J : Nat → Nat → Int64) {h : Nat} (hh : h ≤ 20) (hw : nnW h (A 8)) {i j : Nat} (hij : i < j) (hj : j ≤ h) {L : Nat → Nat → Nat} (hL : okL J L i j) {k : Nat} (k2 : 2 ≤ k) (k6 : k ≤ 6) : zK 2 zX7_within [.ref 76, .int (nI k), .int (nI i), .int (nI j)] (wR f o A J) (fun r w' => w' = (wR f o A J) ∧ r = some (.long (lN (wi (eW A) (A 6) L k i j)))) := by
  refine zK_of qX7_within (by decide +kernel) rfl ?_
  iterate 3 (refine zv_step (bX7_within 2) rfl rfl trivial ?_)
  refine zv_ift (nI_lt (by omega) (by omega)) ?_
  iterate 2 (refine zv_step (bX7_within 2) rfl rfl trivial ?_)
  refine zv_ift (nI_ne0 (by omega) (by omega)) ?_
  iterate 3 (refine zv_step (bX7_within 2) rfl rfl trivial ?_)
  refine zv_ift (fun e => absurd ((nI_eq (b := 1) (by omega) (by decide)).mp e) (by omega)) ?_
  iterate 1 (refine zv_step (bX7_within 2) rfl rfl trivial ?_)
  refine zv_S1 (bX7_within 2) rfl rfl rfl rfl ⟨rfl, rfl, rfl⟩ ⟨by decide, by decide⟩ ⟨Nat.zero_le _, Nat.zero_le _⟩ (mTwoY _ k2 k6) ?_
  rintro _ _ ⟨rfl, rfl⟩
  iterate 1 (refine zv_step (bX7_within 2) rfl rfl trivial ?_)
  refine zv_iff (by decide) ?_
  iterate 6 (refine zv_step (bX7_within 2) rfl rfl trivial ?_)
  rw [wi_2 hij k2 k6]
  refine zv_locals (l := [(6, .int (nI i + Int32.ofInt 1)), (4, .long (lN 0)), (0, .ref 76), (1, .int (nI k)), (2, .int (nI i)), (3, .int (nI j))]) (l' := [(6, .int (nI i + Int32.ofInt 1)), (4, .long (lN 0)), (0, .ref 76), (1, .int (nI k)), (2, .int (nI i)), (3, .int (nI j))]) (fun q h => h) (withL f o A J hh hw hij hj hL k2 k6 (j - 1 - (i + 1)) (i + 1) 0 rfl (Nat.le_refl _) (by omega) (Nat.zero_le _) (nI_1 i))
set_option maxHeartbeats 1000000 in
set_option maxRecDepth 20000 in
theorem mWi7 (f : Nat → zC) (o : Nat → Int32) (A : Nat → Nat → Int32) (J : Nat → Nat → Int64) {h : Nat} (hh : h ≤ 20) (hw : nnW h (A 8)) {i j : Nat} (hij : i < j) (hj : j ≤ h) {L : Nat → Nat → Nat} (hL : okL J L i j) : zK 2 zX7_within [.ref 76, .int (nI 7), .int (nI i), .int (nI j)] (wR f o A J) (fun r w' => w' = (wR f o A J) ∧ r = some (.long (lN (wi (eW A) (A 6) L 7 i j)))) := by
  refine zK_of qX7_within (by decide +kernel) rfl ?_
  iterate 3 (refine zv_step (bX7_within 2) rfl rfl trivial ?_)
  refine zv_ift (nI_lt (by omega) (by omega)) ?_
  iterate 2 (refine zv_step (bX7_within 2) rfl rfl trivial ?_)
  refine zv_ift (by decide) ?_
  iterate 3 (refine zv_step (bX7_within 2) rfl rfl trivial ?_)
  refine zv_ift (by decide) ?_
  iterate 1 (refine zv_step (bX7_within 2) rfl rfl trivial ?_)
  refine zv_S1 (bX7_within 2) rfl rfl rfl rfl ⟨rfl, rfl, rfl⟩ ⟨by decide, by decide⟩ ⟨Nat.zero_le _, Nat.zero_le _⟩ (mTwoN _ (k := 7) (by decide) (by decide)) ?_
  rintro _ _ ⟨rfl, rfl⟩
  iterate 1 (refine zv_step (bX7_within 2) rfl rfl trivial ?_)
  refine zv_ift (by decide) ?_
  iterate 3 (refine zv_step (bX7_within 2) rfl rfl trivial ?_)
  refine zv_iff (by decide) ?_
  iterate 3 (refine zv_step (bX7_within 2) rfl rfl trivial ?_)
  refine zv_iale (bX7_within 2) rfl rfl (vp_in_nI (by omega) (by decide)) (show A 8 (nI i).toNatClampNeg = nI (eW A (i)) by rw [nI_clamp (by omega)]; exact (eW_of hw (by omega)).1) ?_
  iterate 2 (refine zv_step (bX7_within 2) rfl rfl trivial ?_)
  refine zv_ifb (fun h170 => ?_) (fun h170 => ?_)
  · have q170 : ¬ eW A (i) = 25 := fun e => h170 (by rw [e]; rfl)
    iterate 1 (refine zv_step (bX7_within 2) rfl rfl trivial ?_)
    exact zv_lret (bX7_within 2) rfl rfl (Nat.zero_le _) (Nat.zero_le _) ⟨rfl, by rw [wi_7 hij, if_neg (fun q => q170 q.1)] <;> rfl⟩
  · have q170 : eW A (i) = 25 := (nI_eq (by have := (eW_of hw (show i < h by omega)).2; omega) (by decide)).mp (Decidable.not_not.mp h170)
    iterate 5 (refine zv_step (bX7_within 2) rfl rfl trivial ?_)
    refine zv_ifb (fun h177 => ?_) (fun h177 => ?_)
    · have q177 : ¬ 1 < j - i := by
        have h9 : nI j - nI i ≤ nI 1 := h177
        rw [nI_sub (a := j) (b := i) (by omega), nI_leI (by omega) (by decide)] at h9
        omega
      iterate 1 (refine zv_step (bX7_within 2) rfl rfl trivial ?_)
      exact zv_lret (bX7_within 2) rfl rfl (Nat.zero_le _) (Nat.zero_le _) ⟨rfl, by rw [wi_7 hij, if_neg (fun q => q177 q.2)] <;> rfl⟩
    · have q177 : 1 < j - i := by
        have h9 : ¬ nI j - nI i ≤ nI 1 := h177
        rw [nI_sub (a := j) (b := i) (by omega), nI_leI (by omega) (by decide)] at h9
        omega
      iterate 9 (refine zv_step (bX7_within 2) rfl rfl trivial ?_)
      refine zv_lale (bX7_within 2) rfl rfl (show vp_in (c8 21 * (nI i + Int32.ofInt 1) + nI j) 441 by rw [show nI i + Int32.ofInt 1 = nI (i + 1) from nI_1 i, ix21]; exact vp_in_nI (by omega) (by decide)) (show J 1 (c8 21 * (nI i + Int32.ofInt 1) + nI j).toNatClampNeg = lN (L (i + 1) (j)) by rw [show nI i + Int32.ofInt 1 = nI (i + 1) from nI_1 i, ix21, nI_clamp (by omega)]; exact (hL (i + 1) (j) (by omega) (by omega) (by omega) (by omega)).1) ?_
      iterate 1 (refine zv_step (bX7_within 2) rfl rfl trivial ?_)
      exact zv_lret (bX7_within 2) rfl rfl (Nat.zero_le _) (Nat.zero_le _) ⟨rfl, by rw [wi_7 hij, if_pos ⟨q170, q177⟩] <;> rfl⟩
set_option maxHeartbeats 1000000 in
set_option maxRecDepth 20000 in
theorem mWi8 (f : Nat → zC) (o : Nat → Int32) (A : Nat → Nat → Int32) (J : Nat → Nat → Int64) {h : Nat} (hh : h ≤ 20) (hw : nnW h (A 8)) {i j : Nat} (hij : i < j) (hj : j ≤ h) {L : Nat → Nat → Nat} (hL : okL J L i j) : zK 2 zX7_within [.ref 76, .int (nI 8), .int (nI i), .int (nI j)] (wR f o A J) (fun r w' => w' = (wR f o A J) ∧ r = some (.long (lN (wi (eW A) (A 6) L 8 i j)))) := by
  refine zK_of qX7_within (by decide +kernel) rfl ?_
  iterate 3 (refine zv_step (bX7_within 2) rfl rfl trivial ?_)
  refine zv_ift (nI_lt (by omega) (by omega)) ?_
  iterate 2 (refine zv_step (bX7_within 2) rfl rfl trivial ?_)
  refine zv_ift (by decide) ?_
  iterate 3 (refine zv_step (bX7_within 2) rfl rfl trivial ?_)
  refine zv_ift (by decide) ?_
  iterate 1 (refine zv_step (bX7_within 2) rfl rfl trivial ?_)
  refine zv_S1 (bX7_within 2) rfl rfl rfl rfl ⟨rfl, rfl, rfl⟩ ⟨by decide, by decide⟩ ⟨Nat.zero_le _, Nat.zero_le _⟩ (mTwoN _ (k := 8) (by decide) (by decide)) ?_
  rintro _ _ ⟨rfl, rfl⟩
  iterate 1 (refine zv_step (bX7_within 2) rfl rfl trivial ?_)
  refine zv_ift (by decide) ?_
  iterate 3 (refine zv_step (bX7_within 2) rfl rfl trivial ?_)
  refine zv_ift (by decide) ?_
  iterate 3 (refine zv_step (bX7_within 2) rfl rfl trivial ?_)
  refine zv_iff (by decide) ?_
  iterate 3 (refine zv_step (bX7_within 2) rfl rfl trivial ?_)
  refine zv_iale (bX7_within 2) rfl rfl (vp_in_nI (by omega) (by decide)) (show A 8 (nI i).toNatClampNeg = nI (eW A (i)) by rw [nI_clamp (by omega)]; exact (eW_of hw (by omega)).1) ?_
  iterate 2 (refine zv_step (bX7_within 2) rfl rfl trivial ?_)
  refine zv_ifb (fun h212 => ?_) (fun h212 => ?_)
  · have q212 : ¬ eW A (i) = 26 := fun e => h212 (by rw [e]; rfl)
    iterate 1 (refine zv_step (bX7_within 2) rfl rfl trivial ?_)
    exact zv_lret (bX7_within 2) rfl rfl (Nat.zero_le _) (Nat.zero_le _) ⟨rfl, by rw [wi_8 hij, if_neg (fun q => q212 q.1)] <;> rfl⟩
  · have q212 : eW A (i) = 26 := (nI_eq (by have := (eW_of hw (show i < h by omega)).2; omega) (by decide)).mp (Decidable.not_not.mp h212)
    iterate 5 (refine zv_step (bX7_within 2) rfl rfl trivial ?_)
    refine zv_iale (bX7_within 2) rfl rfl (show vp_in (nI j - Int32.ofInt 1) 20 by rw [show nI j - Int32.ofInt 1 = nI (j - 1) from sub_1 (by omega)]; exact vp_in_nI (by omega) (by decide)) (show A 8 (nI j - Int32.ofInt 1).toNatClampNeg = nI (eW A (j - 1)) by rw [show nI j - Int32.ofInt 1 = nI (j - 1) from sub_1 (by omega), nI_clamp (by omega)]; exact (eW_of hw (by omega)).1) ?_
    iterate 2 (refine zv_step (bX7_within 2) rfl rfl trivial ?_)
    refine zv_ifb (fun h225 => ?_) (fun h225 => ?_)
    · have q225 : ¬ eW A (j - 1) = 27 := fun e => h225 (by rw [e]; rfl)
      iterate 1 (refine zv_step (bX7_within 2) rfl rfl trivial ?_)
      exact zv_lret (bX7_within 2) rfl rfl (Nat.zero_le _) (Nat.zero_le _) ⟨rfl, by rw [wi_8 hij, if_neg (fun q => q225 q.2.1)] <;> rfl⟩
    · have q225 : eW A (j - 1) = 27 := (nI_eq (by have := (eW_of hw (show j - 1 < h by omega)).2; omega) (by decide)).mp (Decidable.not_not.mp h225)
      iterate 5 (refine zv_step (bX7_within 2) rfl rfl trivial ?_)
      refine zv_ifb (fun h232 => ?_) (fun h232 => ?_)
      · have q232 : ¬ 2 < j - i := by
          have h9 : nI j - nI i ≤ nI 2 := h232
          rw [nI_sub (a := j) (b := i) (by omega), nI_leI (by omega) (by decide)] at h9
          omega
        iterate 1 (refine zv_step (bX7_within 2) rfl rfl trivial ?_)
        exact zv_lret (bX7_within 2) rfl rfl (Nat.zero_le _) (Nat.zero_le _) ⟨rfl, by rw [wi_8 hij, if_neg (fun q => q232 q.2.2)] <;> rfl⟩
      · have q232 : 2 < j - i := by
          have h9 : ¬ nI j - nI i ≤ nI 2 := h232
          rw [nI_sub (a := j) (b := i) (by omega), nI_leI (by omega) (by decide)] at h9
          omega
        iterate 11 (refine zv_step (bX7_within 2) rfl rfl trivial ?_)
        refine zv_lale (bX7_within 2) rfl rfl (show vp_in (c8 21 * (nI i + Int32.ofInt 1) + nI j - Int32.ofInt 1) 441 by rw [show c8 21 * (nI i + Int32.ofInt 1) + nI j - Int32.ofInt 1 = nI (21 * (i + 1) + (j - 1)) by rw [show nI i + Int32.ofInt 1 = nI (i + 1) from nI_1 i, ix21, sub_1 (by omega)]; congr 1; omega]; exact vp_in_nI (by omega) (by decide)) (show J 1 (c8 21 * (nI i + Int32.ofInt 1) + nI j - Int32.ofInt 1).toNatClampNeg = lN (L (i + 1) (j - 1)) by rw [show c8 21 * (nI i + Int32.ofInt 1) + nI j - Int32.ofInt 1 = nI (21 * (i + 1) + (j - 1)) by rw [show nI i + Int32.ofInt 1 = nI (i + 1) from nI_1 i, ix21, sub_1 (by omega)]; congr 1; omega, nI_clamp (by omega)]; exact (hL (i + 1) (j - 1) (by omega) (by omega) (by omega) (by omega)).1) ?_
        iterate 1 (refine zv_step (bX7_within 2) rfl rfl trivial ?_)
        exact zv_lret (bX7_within 2) rfl rfl (Nat.zero_le _) (Nat.zero_le _) ⟨rfl, by rw [wi_8 hij, if_pos ⟨q212, q225, q232⟩] <;> rfl⟩
set_option maxHeartbeats 1000000 in
set_option maxRecDepth 20000 in
theorem mWi9 (f : Nat → zC) (o : Nat → Int32) (A : Nat → Nat → Int32) (J : Nat → Nat → Int64) {h : Nat} (hh : h ≤ 20) (hw : nnW h (A 8)) {i j : Nat} (hij : i < j) (hj : j ≤ h) {L : Nat → Nat → Nat} (hL : okL J L i j) : zK 2 zX7_within [.ref 76, .int (nI 9), .int (nI i), .int (nI j)] (wR f o A J) (fun r w' => w' = (wR f o A J) ∧ r = some (.long (lN (wi (eW A) (A 6) L 9 i j)))) := by
  refine zK_of qX7_within (by decide +kernel) rfl ?_
  iterate 3 (refine zv_step (bX7_within 2) rfl rfl trivial ?_)
  refine zv_ift (nI_lt (by omega) (by omega)) ?_
  iterate 2 (refine zv_step (bX7_within 2) rfl rfl trivial ?_)
  refine zv_ift (by decide) ?_
  iterate 3 (refine zv_step (bX7_within 2) rfl rfl trivial ?_)
  refine zv_ift (by decide) ?_
  iterate 1 (refine zv_step (bX7_within 2) rfl rfl trivial ?_)
  refine zv_S1 (bX7_within 2) rfl rfl rfl rfl ⟨rfl, rfl, rfl⟩ ⟨by decide, by decide⟩ ⟨Nat.zero_le _, Nat.zero_le _⟩ (mTwoN _ (k := 9) (by decide) (by decide)) ?_
  rintro _ _ ⟨rfl, rfl⟩
  iterate 1 (refine zv_step (bX7_within 2) rfl rfl trivial ?_)
  refine zv_ift (by decide) ?_
  iterate 3 (refine zv_step (bX7_within 2) rfl rfl trivial ?_)
  refine zv_ift (by decide) ?_
  iterate 3 (refine zv_step (bX7_within 2) rfl rfl trivial ?_)
  refine zv_ift (by decide) ?_
  iterate 3 (refine zv_step (bX7_within 2) rfl rfl trivial ?_)
  refine zv_iale (bX7_within 2) rfl rfl (vp_in_nI (by omega) (by decide)) (show A 8 (nI i).toNatClampNeg = nI (eW A (i)) by rw [nI_clamp (by omega)]; exact (eW_of hw (by omega)).1) ?_
  iterate 2 (refine zv_step (bX7_within 2) rfl rfl trivial ?_)
  refine zv_ifb (fun h263 => ?_) (fun h263 => ?_)
  · have q263 : ¬ eW A (i) < 10 := fun e => absurd (nI_lt e (by decide)) (Int32.not_lt.mpr h263)
    iterate 1 (refine zv_step (bX7_within 2) rfl rfl trivial ?_)
    exact zv_lret (bX7_within 2) rfl rfl (Nat.zero_le _) (Nat.zero_le _) ⟨rfl, by rw [wi_9 hij, if_neg (fun q => q263 q.1)] <;> rfl⟩
  · have q263 : eW A (i) < 10 := by
      have h9 : nI (eW A (i)) < nI 10 := Int32.not_le.mp h263
      have := (eW_of hw (show i < h by omega)).2
      rwa [nI_ltI (by omega) (by decide)] at h9
    iterate 5 (refine zv_step (bX7_within 2) rfl rfl trivial ?_)
    refine zv_iale (bX7_within 2) rfl rfl (vp_in_nI (by omega) (by decide)) (show A 8 (nI i).toNatClampNeg = nI (eW A (i)) by rw [nI_clamp (by omega)]; exact (eW_of hw (by omega)).1) ?_
    refine zv_zale (bX7_within 2) rfl rfl (show vp_in (nI (eW A i)) 10 from vp_in_nI (by omega) (by decide)) (show A 6 (nI (eW A i)).toNatClampNeg = A 6 (eW A i) by rw [nI_clamp (by omega)]) ?_
    iterate 1 (refine zv_step (bX7_within 2) rfl rfl trivial ?_)
    refine zv_ifb (fun h277 => ?_) (fun h277 => ?_)
    · iterate 1 (refine zv_step (bX7_within 2) rfl rfl trivial ?_)
      exact zv_lret (bX7_within 2) rfl rfl (Nat.zero_le _) (Nat.zero_le _) ⟨rfl, by rw [wi_9 hij, if_neg (fun q => q.2.1 h277)] <;> rfl⟩
    · iterate 5 (refine zv_step (bX7_within 2) rfl rfl trivial ?_)
      refine zv_ifb (fun h284 => ?_) (fun h284 => ?_)
      · have q284 : ¬ 2 < j - i := by
          have h9 : nI j - nI i ≤ nI 2 := h284
          rw [nI_sub (a := j) (b := i) (by omega), nI_leI (by omega) (by decide)] at h9
          omega
        iterate 1 (refine zv_step (bX7_within 2) rfl rfl trivial ?_)
        exact zv_lret (bX7_within 2) rfl rfl (Nat.zero_le _) (Nat.zero_le _) ⟨rfl, by rw [wi_9 hij, if_neg (fun q => q284 q.2.2.1)] <;> rfl⟩
      · have q284 : 2 < j - i := by
          have h9 : ¬ nI j - nI i ≤ nI 2 := h284
          rw [nI_sub (a := j) (b := i) (by omega), nI_leI (by omega) (by decide)] at h9
          omega
        iterate 5 (refine zv_step (bX7_within 2) rfl rfl trivial ?_)
        refine zv_iale (bX7_within 2) rfl rfl (show vp_in (nI i + Int32.ofInt 1) 20 by rw [show nI i + Int32.ofInt 1 = nI (i + 1) from nI_1 i]; exact vp_in_nI (by omega) (by decide)) (show A 8 (nI i + Int32.ofInt 1).toNatClampNeg = nI (eW A (i + 1)) by rw [show nI i + Int32.ofInt 1 = nI (i + 1) from nI_1 i, nI_clamp (by omega)]; exact (eW_of hw (by omega)).1) ?_
        iterate 2 (refine zv_step (bX7_within 2) rfl rfl trivial ?_)
        refine zv_ifb (fun h297 => ?_) (fun h297 => ?_)
        · have q297 : ¬ eW A (i + 1) = 28 := fun e => h297 (by rw [e]; rfl)
          iterate 1 (refine zv_step (bX7_within 2) rfl rfl trivial ?_)
          exact zv_lret (bX7_within 2) rfl rfl (Nat.zero_le _) (Nat.zero_le _) ⟨rfl, by rw [wi_9 hij, if_neg (fun q => q297 q.2.2.2)] <;> rfl⟩
        · have q297 : eW A (i + 1) = 28 := (nI_eq (by have := (eW_of hw (show i + 1 < h by omega)).2; omega) (by decide)).mp (Decidable.not_not.mp h297)
          iterate 9 (refine zv_step (bX7_within 2) rfl rfl trivial ?_)
          refine zv_lale (bX7_within 2) rfl rfl (show vp_in (c8 21 * (nI i + Int32.ofInt 2) + nI j) 441 by rw [show nI i + Int32.ofInt 2 = nI (i + 2) from nI_2 i, ix21]; exact vp_in_nI (by omega) (by decide)) (show J 1 (c8 21 * (nI i + Int32.ofInt 2) + nI j).toNatClampNeg = lN (L (i + 2) (j)) by rw [show nI i + Int32.ofInt 2 = nI (i + 2) from nI_2 i, ix21, nI_clamp (by omega)]; exact (hL (i + 2) (j) (by omega) (by omega) (by omega) (by omega)).1) ?_
          iterate 1 (refine zv_step (bX7_within 2) rfl rfl trivial ?_)
          exact zv_lret (bX7_within 2) rfl rfl (Nat.zero_le _) (Nat.zero_le _) ⟨rfl, by rw [wi_9 hij, if_pos ⟨q263, h277, q284, q297⟩] <;> rfl⟩
set_option maxHeartbeats 1000000 in
set_option maxRecDepth 20000 in
theorem mWiN (f : Nat → zC) (o : Nat → Int32) (A : Nat → Nat → Int32) (J : Nat → Nat → Int64) {k i j : Nat} (hij : j ≤ i) (hi : i ≤ 30) {G : Nat → Int32} {E : Nat → Nat} {L : Nat → Nat → Nat} : zK 2 zX7_within [.ref 76, .int (nI k), .int (nI i), .int (nI j)] (wR f o A J) (fun r w' => w' = (wR f o A J) ∧ r = some (.long (lN (wi E G L k i j)))) := by
  refine zK_of qX7_within (by decide +kernel) rfl ?_
  iterate 3 (refine zv_step (bX7_within 2) rfl rfl trivial ?_)
  refine zv_iff (nI_nlt (by omega) (by omega)) ?_
  iterate 1 (refine zv_step (bX7_within 2) rfl rfl trivial ?_)
  exact zv_lret (bX7_within 2) rfl rfl (Nat.zero_le _) (Nat.zero_le _) ⟨rfl, by rw [wi_n hij]; rfl⟩
theorem mWithin (f : Nat → zC) (o : Nat → Int32) (A : Nat → Nat → Int32) (J : Nat → Nat → Int64) {h : Nat} (hh : h ≤ 20) (hw : nnW h (A 8)) {i j : Nat} (hi : i ≤ 30) (hj : j ≤ h) {L : Nat → Nat → Nat} (hL : okL J L i j) {k : Nat} (hk : k < 10) {x y z : Int32} (ex : x = nI k) (ey : y = nI i) (ez : z = nI j) : zK 2 zX7_within [.ref 76, .int x, .int y, .int z] (wR f o A J) (fun r w' => w' = (wR f o A J) ∧ r = some (.long (lN (wi (eW A) (A 6) L k i j)))) := by
  subst ex ey ez
  rcases Nat.lt_or_ge i j with hij | hij
  · rcases (show k = 0 ∨ k = 1 ∨ (2 ≤ k ∧ k ≤ 6) ∨ k = 7 ∨ k = 8 ∨ k = 9 by omega) with rfl | rfl | ⟨k2, k6⟩ | rfl | rfl | rfl
    · exact mWi0 f o A J hh hw hij hj hL
    · exact mWi1 f o A J hh hw hij hj hL
    · exact mWi2 f o A J hh hw hij hj hL k2 k6
    · exact mWi7 f o A J hh hw hij hj hL
    · exact mWi8 f o A J hh hw hij hj hL
    · exact mWi9 f o A J hh hw hij hj hL
  · exact mWiN f o A J hij hi
end
section
/-- READINGS of a span by way c: KIND c / 2, between begin and end if c is odd -/
def mW (A : Nat → Nat → Int32) (s : Nat) (L : Nat → Nat → Nat) (i j c : Nat) : Nat := if ltW A s (c / 2) (c % 2) = true ∧ (c % 2 = 0 ∨ (eW A i = 29 ∧ eW A (j - 1) = 30)) then wi (eW A) (A 6) L (c / 2) (i + c % 2) (j - c % 2) else 0
def csW (g : Nat → Nat) : Nat → Nat
  | 0 => 0
  | c + 1 => plW (csW g c) (g c)
theorem csW_le (g : Nat → Nat) : ∀ c, csW g c ≤ cap
  | 0 => Nat.zero_le _
  | c + 1 => (plW_le _ _).1
theorem mW_e {A : Nat → Nat → Int32} {s : Nat} {L : Nat → Nat → Nat} {i j c : Nat} (h : c % 2 = 0) (g : ltW A s (c / 2) 0 = true) : mW A s L i j c = wi (eW A) (A 6) L (c / 2) i j := by
  unfold mW
  rw [h, if_pos ⟨g, Or.inl rfl⟩]
  rfl
theorem mW_o {A : Nat → Nat → Int32} {s : Nat} {L : Nat → Nat → Nat} {i j c : Nat} (h : c % 2 = 1) (g : ltW A s (c / 2) 1 = true) (e1 : eW A i = 29) (e2 : eW A (j - 1) = 30) : mW A s L i j c = wi (eW A) (A 6) L (c / 2) (i + 1) (j - 1) := by
  unfold mW
  rw [h, if_pos ⟨g, Or.inr ⟨e1, e2⟩⟩]
theorem mW_f {A : Nat → Nat → Int32} {s : Nat} {L : Nat → Nat → Nat} {i j c b : Nat} (h : c % 2 = b) (g : ltW A s (c / 2) b = false) : mW A s L i j c = 0 := by
  unfold mW
  rw [h, if_neg (fun q => by rw [g] at q; exact absurd q.1 (by decide))]
theorem mW_x {A : Nat → Nat → Int32} {s : Nat} {L : Nat → Nat → Nat} {i j c : Nat} (h : c % 2 = 1) (e : ¬ (eW A i = 29 ∧ eW A (j - 1) = 30)) : mW A s L i j c = 0 := by
  unfold mW
  rw [h, if_neg (fun q => q.2.elim (by decide) e)]
theorem wiP_cg {E : Nat → Nat} {L L' : Nat → Nat → Nat} {k i j : Nat} (e : ∀ a b, i ≤ a → a < b → b ≤ j → b - a < j - i → L a b = L' a b) : ∀ (c m n : Nat), m + c + 1 ≤ j → i < m → wiP E L k i j c m n = wiP E L' k i j c m n
  | 0, _, _, _, _ => rfl
  | c + 1, m, n, h1, h2 => by
    show wiP E L k i j c (m + 1) _ = wiP E L' k i j c (m + 1) _
    rw [e i m (by omega) (by omega) (by omega) (by omega), e (m + 1) j (by omega) (by omega) (by omega) (by omega)]
    exact wiP_cg e c (m + 1) _ (by omega) (by omega)
theorem wi_cg {E : Nat → Nat} {G : Nat → Int32} {L L' : Nat → Nat → Nat} {k i j : Nat} (e : ∀ a b, i ≤ a → a < b → b ≤ j → b - a < j - i → L a b = L' a b) : wi E G L k i j = wi E G L' k i j := by
  unfold wi
  split
  · rfl
  · split
    · rfl
    · split
      · rfl
      · split
        · rename_i h _ _ _
          by_cases q : j = i + 1
          · rw [show j - 1 - (i + 1) = 0 by omega]
            rfl
          · exact wiP_cg e _ _ _ (by omega) (by omega)
        · split
          · split
            · rename_i q
              exact e _ _ (by omega) (by omega) (by omega) (by omega)
            · rfl
          · split
            · split
              · rename_i q
                exact e _ _ (by omega) (by omega) (by omega) (by omega)
              · rfl
            · split
              · rename_i q
                exact e _ _ (by omega) (by omega) (by omega) (by omega)
              · rfl
theorem mW_cg {A : Nat → Nat → Int32} {s : Nat} {L L' : Nat → Nat → Nat} {i j c : Nat} (e : ∀ a b, i ≤ a → a < b → b ≤ j → b - a < j - i → L a b = L' a b) : mW A s L i j c = mW A s L' i j c := by
  unfold mW
  rw [wi_cg (L := L) (L' := L') (fun a b h1 h2 h3 h4 => e a b (by omega) h2 (by omega) (by omega))]
theorem csW_cg {g g' : Nat → Nat} : ∀ c, (∀ d, d < c → g d = g' d) → csW g c = csW g' c
  | 0, _ => rfl
  | c + 1, h => by
    show plW (csW g c) (g c) = plW (csW g' c) (g' c)
    rw [csW_cg c (fun d hd => h d (by omega)), h c (by omega)]
/-- the table of sums as it stands -/
def lW (J : Nat → Nat → Int64) (a b : Nat) : Nat := (J 1 (21 * a + b)).toInt.toNat
/-- a span's numbers stand in the tables -/
def okS (A : Nat → Nat → Int32) (s : Nat) (J : Nat → Nat → Int64) (i j : Nat) : Prop := (∀ c, c < 20 → J 0 (20 * (21 * i + j) + c) = lN (mW A s (lW J) i j c)) ∧ J 1 (21 * i + j) = lN (csW (mW A s (lW J) i j) 20)
theorem okS_l {A : Nat → Nat → Int32} {s : Nat} {J : Nat → Nat → Int64} {i j : Nat} (h : okS A s J i j) : lW J i j = csW (mW A s (lW J) i j) 20 ∧ lW J i j ≤ cap ∧ J 1 (21 * i + j) = lN (lW J i j) := by
  have hc := csW_le (mW A s (lW J) i j) 20
  have e : lW J i j = csW (mW A s (lW J) i j) 20 := by
    show (J 1 (21 * i + j)).toInt.toNat = _
    rw [h.2]
    exact lN_cl (by unfold cap at hc; omega)
  refine ⟨e, by rw [e]; exact hc, ?_⟩
  rw [h.2, ← e]
def okJ (h : Nat) (A : Nat → Nat → Int32) (s : Nat) (J : Nat → Nat → Int64) : Prop := ∀ i j, i < j → j ≤ h → okS A s J i j
/-- .. for all spans shorter than n, and those of n words that begin ahead of i -/
def okN (h : Nat) (A : Nat → Nat → Int32) (s : Nat) (J : Nat → Nat → Int64) (n i : Nat) : Prop := ∀ a b, a < b → b ≤ h → (b - a < n ∨ (b - a = n ∧ a < i)) → okS A s J a b
theorem okN_L {h : Nat} {A : Nat → Nat → Int32} {s : Nat} {J : Nat → Nat → Int64} {n i0 : Nat} (hN : okN h A s J n i0) {i j : Nat} (hj : j ≤ h) (hl : j - i ≤ n) : okL J (lW J) i j := fun a b _ h2 h3 h4 => by
  have q := okS_l (hN a b h2 (by omega) (Or.inl (by omega)))
  exact ⟨q.2.2, q.2.1⟩
theorem okS_fr {A : Nat → Nat → Int32} {s : Nat} {J J' : Nat → Nat → Int64} {i j : Nat} (hij : i < j) (h : okS A s J i j) (e1 : ∀ a b, i ≤ a → a < b → b ≤ j → J' 1 (21 * a + b) = J 1 (21 * a + b)) (e0 : ∀ c, c < 20 → J' 0 (20 * (21 * i + j) + c) = J 0 (20 * (21 * i + j) + c)) : okS A s J' i j := by
  have eL : ∀ a b, i ≤ a → a < b → b ≤ j → b - a < j - i → lW J a b = lW J' a b := fun a b h1 h2 h3 _ => by
    unfold lW
    rw [e1 a b h1 h2 h3]
  refine ⟨fun c hc => ?_, ?_⟩
  · rw [e0 c hc, h.1 c hc, mW_cg eL]
  · rw [e1 i j (Nat.le_refl _) hij (Nat.le_refl _), h.2, csW_cg 20 (fun d _ => mW_cg eL)]
theorem ix20m {x c : Nat} : c8 20 * nI x + nI c = nI (20 * x + c) := ix20
theorem half {d : Nat} (h : d < 21) : nI d / Int32.ofInt 2 = nI (d / 2) := nI_div (b := 2) (by omega) (by decide) (by decide)
theorem rem2 {d : Nat} (h : d < 21) : nI d - nI d / Int32.ofInt 2 * Int32.ofInt 2 = nI (d % 2) := by
  rw [half h, show Int32.ofInt 2 = nI 2 from rfl, nI_mul, nI_sub (Nat.div_mul_le_self d 2)]
  congr 1
  have := Nat.div_add_mod d 2
  omega
theorem mIsLetE (f : Nat → zC) (o : Nat → Int32) (A : Nat → Nat → Int32) (J : Nat → Nat → Int64) {s k b : Nat} (hs : s ≤ 8) (ho : o 28 = nI s) (hk : k < 10) (hb : b ≤ 1) {x y : Int32} (ex : x = nI k) (ey : y = nI b) : zK 1 zX7_isLet [.ref 76, .int x, .int y] (wR f o A J) (fun r w' => w' = (wR f o A J) ∧ ((ltW A s k b = true ∧ r = some (.int 1)) ∨ (ltW A s k b = false ∧ r = some (.int 0)))) := by
  subst ex ey
  exact mIsLet f o A J hs ho hk hb
set_option maxHeartbeats 1000000 in
set_option maxRecDepth 20000 in
theorem rkC (f : Nat → zC) (o : Nat → Int32) (A : Nat → Nat → Int32) (J : Nat → Nat → Int64) {h : Nat} (hh : h ≤ 20) (hw : nnW h (A 8)) {s : Nat} (hs : s ≤ 8) (ho : o 28 = nI s) {i j n : Nat} (hij : i + n = j) (hn : 1 ≤ n) (hj : j ≤ h) (hN : okN h A s J n i) {n0 : Nat} {Q : Option Value → zW → Prop} (kk : ∀ g, (∀ x, ¬ (20 * (21 * i + j) ≤ x ∧ x < 20 * (21 * i + j) + 20) → g x = J 0 x) → (∀ x, x < 20 → g (20 * (21 * i + j) + x) = lN (mW A s (lW J) i j x)) → zV (zMo 3 zX7_reckons) false n0 0 0 190 [(5, .long (lN (csW (mW A s (lW J) i j) 20))), (4, .int (nI j)), (3, .int (nI i)), (2, .int (nI n)), (0, .ref 76), (1, .int (nI s))] [] (wR f o A (updJ J 0 g)) Q) : ∀ (c d : Nat) (g : Nat → Int64), d + c = 20 → (∀ x, ¬ (20 * (21 * i + j) ≤ x ∧ x < 20 * (21 * i + j) + 20) → g x = J 0 x) → (∀ x, x < d → g (20 * (21 * i + j) + x) = lN (mW A s (lW J) i j x)) → ∀ {x7 : Int32}, x7 = nI d → zV (zMo 3 zX7_reckons) false n0 0 0 38 [(7, .int x7), (5, .long (lN (csW (mW A s (lW J) i j) d))), (4, .int (nI j)), (3, .int (nI i)), (2, .int (nI n)), (0, .ref 76), (1, .int (nI s))] [] (wR f o A (updJ J 0 g)) Q := by
  intro c
  induction c with
  | zero =>
    intro d g hd hg1 hg2 x7 e7
    subst e7
    iterate 3 (refine zv_step (bX7_reckons 3) rfl rfl trivial ?_)
    refine zv_ift (show nI 20 ≤ nI d from nI_le (by omega) (by omega)) ?_
    obtain rfl : d = 20 := by omega
    refine zv_locals (l := [(7, .int (nI 20)), (5, .long (lN (csW (mW A s (lW J) i j) 20))), (4, .int (nI j)), (3, .int (nI i)), (2, .int (nI n)), (0, .ref 76), (1, .int (nI s))]) (l' := [(5, .long (lN (csW (mW A s (lW J) i j) 20))), (4, .int (nI j)), (3, .int (nI i)), (2, .int (nI n)), (0, .ref 76), (1, .int (nI s))]) ?_ (kk g hg1 hg2)
    simp
  | succ c ih =>
    intro d g hd hg1 hg2 x7 e7
    subst e7
    iterate 3 (refine zv_step (bX7_reckons 3) rfl rfl trivial ?_)
    refine zv_iff (show ¬ nI 20 ≤ nI d from fun h => absurd ((nI_leI (by omega) (by omega)).mp h) (by omega)) ?_
    iterate 2 (refine zv_step (bX7_reckons 3) rfl rfl trivial ?_)
    refine zv_step (bX7_reckons 3) rfl rfl (show ¬ Int32.ofInt 2 = 0 by decide) ?_
    iterate 2 (refine zv_step (bX7_reckons 3) rfl rfl trivial ?_)
    refine zv_ifb (fun h50 => ?_) (fun h50 => ?_)
    · have q50 : d % 2 = 0 := by
        have h9 : ¬ nI d - nI d / Int32.ofInt 2 * Int32.ofInt 2 = nI 1 := h50
        rw [rem2 (by omega), nI_eq (by omega) (by decide)] at h9
        omega
      iterate 5 (refine zv_step (bX7_reckons 3) rfl rfl trivial ?_)
      refine zv_step (bX7_reckons 3) rfl rfl (show ¬ Int32.ofInt 2 = 0 by decide) ?_
      iterate 1 (refine zv_step (bX7_reckons 3) rfl rfl trivial ?_)
      refine zv_V2 (bX7_reckons 3) rfl rfl rfl rfl rfl rfl rfl ⟨rfl, rfl, rfl⟩ ⟨by decide, by decide⟩ ⟨Nat.zero_le _, Nat.zero_le _⟩ (mIsLetE f o A _ hs ho (k := d / 2) (b := 0) (by omega) (by decide) (half (by omega)) rfl) ?_
      rintro _ _ ⟨rfl, ⟨g1, rfl⟩ | ⟨g1, rfl⟩⟩
      · skip
        iterate 1 (refine zv_step (bX7_reckons 3) rfl rfl trivial ?_)
        refine zv_iff (by decide) ?_
        iterate 2 (refine zv_step (bX7_reckons 3) rfl rfl trivial ?_)
        refine zv_ift (by decide) ?_
        iterate 5 (refine zv_step (bX7_reckons 3) rfl rfl trivial ?_)
        refine zv_ift (by decide) ?_
        iterate 2 (refine zv_step (bX7_reckons 3) rfl rfl trivial ?_)
        refine zv_ift (by decide) ?_
        iterate 3 (refine zv_step (bX7_reckons 3) rfl rfl trivial ?_)
        refine zv_step (bX7_reckons 3) rfl rfl (show ¬ Int32.ofInt 2 = 0 by decide) ?_
        iterate 2 (refine zv_step (bX7_reckons 3) rfl rfl trivial ?_)
        refine zv_V3 (bX7_reckons 3) rfl rfl rfl rfl rfl rfl rfl ⟨rfl, rfl, rfl⟩ ⟨by decide, by decide⟩ ⟨Nat.zero_le _, Nat.zero_le _⟩ (mWithin f o A (updJ J 0 g) hh hw (i := i) (j := j) (by omega) (by omega) (L := lW J) (okN_L hN (i := i) (j := j) (by omega) (by omega)) (k := d / 2) (by omega) (half (by omega)) rfl rfl) ?_
        rintro _ _ ⟨rfl, rfl⟩
        iterate 13 (refine zv_step (bX7_reckons 3) rfl rfl trivial ?_)
        refine zv_step (bX7_reckons 3) rfl rfl (show vp_in (c8 20 * (c8 21 * nI i + nI j) + nI d) 8820 by rw [show c8 20 * (c8 21 * nI i + nI j) + nI d = nI (20 * (21 * i + j) + d) by rw [ix21, ix20m]]; exact vp_in_nI (by omega) (by decide)) ?_
        iterate 2 (refine zv_step (bX7_reckons 3) rfl rfl trivial ?_)
        refine zv_S2 (bX7_reckons 3) rfl rfl rfl rfl ⟨rfl, rfl, rfl⟩ ⟨by decide, by decide⟩ ⟨Nat.zero_le _, Nat.zero_le _⟩ (mPlus _ (csW_le _ _) (a := csW (mW A s (lW J) i j) d) (b := wi (eW A) (A 6) (lW J) (d / 2) i j) (wi_le (okN_L hN (i := i) (j := j) (by omega) (by omega)))) ?_
        rintro _ _ ⟨rfl, rfl⟩
        iterate 3 (refine zv_step (bX7_reckons 3) rfl rfl trivial ?_)
        have e9 : mW A s (lW J) i j d = wi (eW A) (A 6) (lW J) (d / 2) i j := mW_e q50 g1
        refine zv_world (show _ = wR f o A (updJ J 0 (vp_updL g (20 * (21 * i + j) + d) (lN (mW A s (lW J) i j d)))) from by rw [e9, show 20 * (21 * i + j) + d = (c8 20 * (c8 21 * nI i + nI j) + nI d).toNatClampNeg by rw [show c8 20 * (c8 21 * nI i + nI j) + nI d = nI (20 * (21 * i + j) + d) by rw [ix21, ix20m], nI_clamp (by omega)]]; rfl) ?_
        have e10 : csW (mW A s (lW J) i j) (d + 1) = plW (csW (mW A s (lW J) i j) d) (wi (eW A) (A 6) (lW J) (d / 2) i j) := by
          show plW _ _ = _
          rw [e9]
        have h9 := ih (d + 1) (vp_updL g (20 * (21 * i + j) + d) (lN (mW A s (lW J) i j d))) (by omega) (fun x hx => by
          unfold vp_updL
          rw [if_neg (by omega)]
          exact hg1 x hx) (fun x hx => by
          unfold vp_updL
          split
          · rename_i e
            rw [show x = d by omega]
          · exact hg2 x (by omega)) (x7 := nI d + Int32.ofInt 1) (nI_1 d)
        rw [e10] at h9
        refine zv_locals (l := [(7, .int (nI d + Int32.ofInt 1)), (5, .long (lN (plW (csW (mW A s (lW J) i j) d) (wi (eW A) (A 6) (lW J) (d / 2) i j)))), (10, .long (lN (wi (eW A) (A 6) (lW J) (d / 2) i j))), (9, .int (Int32.ofInt 1)), (8, .int (Int32.ofInt 0)), (4, .int (nI j)), (3, .int (nI i)), (2, .int (nI n)), (0, .ref 76), (1, .int (nI s))]) (l' := [(7, .int (nI d + Int32.ofInt 1)), (5, .long (lN (plW (csW (mW A s (lW J) i j) d) (wi (eW A) (A 6) (lW J) (d / 2) i j)))), (4, .int (nI j)), (3, .int (nI i)), (2, .int (nI n)), (0, .ref 76), (1, .int (nI s))]) ?_ h9
        simp
      · skip
        iterate 1 (refine zv_step (bX7_reckons 3) rfl rfl trivial ?_)
        refine zv_ift (by decide) ?_
        iterate 4 (refine zv_step (bX7_reckons 3) rfl rfl trivial ?_)
        refine zv_iff (by decide) ?_
        iterate 15 (refine zv_step (bX7_reckons 3) rfl rfl trivial ?_)
        refine zv_step (bX7_reckons 3) rfl rfl (show vp_in (c8 20 * (c8 21 * nI i + nI j) + nI d) 8820 by rw [show c8 20 * (c8 21 * nI i + nI j) + nI d = nI (20 * (21 * i + j) + d) by rw [ix21, ix20m]]; exact vp_in_nI (by omega) (by decide)) ?_
        iterate 2 (refine zv_step (bX7_reckons 3) rfl rfl trivial ?_)
        refine zv_S2 (bX7_reckons 3) rfl rfl rfl rfl ⟨rfl, rfl, rfl⟩ ⟨by decide, by decide⟩ ⟨Nat.zero_le _, Nat.zero_le _⟩ (mPlus _ (csW_le _ _) (a := csW (mW A s (lW J) i j) d) (b := 0) (Nat.zero_le _)) ?_
        rintro _ _ ⟨rfl, rfl⟩
        iterate 3 (refine zv_step (bX7_reckons 3) rfl rfl trivial ?_)
        have e9 : mW A s (lW J) i j d = 0 := mW_f (b := 0) q50 g1
        refine zv_world (show _ = wR f o A (updJ J 0 (vp_updL g (20 * (21 * i + j) + d) (lN (mW A s (lW J) i j d)))) from by rw [e9, show 20 * (21 * i + j) + d = (c8 20 * (c8 21 * nI i + nI j) + nI d).toNatClampNeg by rw [show c8 20 * (c8 21 * nI i + nI j) + nI d = nI (20 * (21 * i + j) + d) by rw [ix21, ix20m], nI_clamp (by omega)]]; rfl) ?_
        have e10 : csW (mW A s (lW J) i j) (d + 1) = plW (csW (mW A s (lW J) i j) d) (0) := by
          show plW _ _ = _
          rw [e9]
        have h9 := ih (d + 1) (vp_updL g (20 * (21 * i + j) + d) (lN (mW A s (lW J) i j d))) (by omega) (fun x hx => by
          unfold vp_updL
          rw [if_neg (by omega)]
          exact hg1 x hx) (fun x hx => by
          unfold vp_updL
          split
          · rename_i e
            rw [show x = d by omega]
          · exact hg2 x (by omega)) (x7 := nI d + Int32.ofInt 1) (nI_1 d)
        rw [e10] at h9
        refine zv_locals (l := [(7, .int (nI d + Int32.ofInt 1)), (5, .long (lN (plW (csW (mW A s (lW J) i j) d) (0)))), (10, .long (lN (0))), (9, .int (Int32.ofInt 0)), (8, .int (Int32.ofInt 0)), (4, .int (nI j)), (3, .int (nI i)), (2, .int (nI n)), (0, .ref 76), (1, .int (nI s))]) (l' := [(7, .int (nI d + Int32.ofInt 1)), (5, .long (lN (plW (csW (mW A s (lW J) i j) d) (0)))), (4, .int (nI j)), (3, .int (nI i)), (2, .int (nI n)), (0, .ref 76), (1, .int (nI s))]) ?_ h9
        simp
    · have q50 : d % 2 = 1 := by
        have h9 : nI d - nI d / Int32.ofInt 2 * Int32.ofInt 2 = nI 1 := Decidable.not_not.mp h50
        rwa [rem2 (by omega), nI_eq (by omega) (by decide)] at h9
      iterate 6 (refine zv_step (bX7_reckons 3) rfl rfl trivial ?_)
      refine zv_step (bX7_reckons 3) rfl rfl (show ¬ Int32.ofInt 2 = 0 by decide) ?_
      iterate 1 (refine zv_step (bX7_reckons 3) rfl rfl trivial ?_)
      refine zv_V2 (bX7_reckons 3) rfl rfl rfl rfl rfl rfl rfl ⟨rfl, rfl, rfl⟩ ⟨by decide, by decide⟩ ⟨Nat.zero_le _, Nat.zero_le _⟩ (mIsLetE f o A _ hs ho (k := d / 2) (b := 1) (by omega) (by decide) (half (by omega)) rfl) ?_
      rintro _ _ ⟨rfl, ⟨g1, rfl⟩ | ⟨g1, rfl⟩⟩
      · skip
        iterate 1 (refine zv_step (bX7_reckons 3) rfl rfl trivial ?_)
        refine zv_iff (by decide) ?_
        iterate 2 (refine zv_step (bX7_reckons 3) rfl rfl trivial ?_)
        refine zv_iff (by decide) ?_
        iterate 3 (refine zv_step (bX7_reckons 3) rfl rfl trivial ?_)
        refine zv_iale (bX7_reckons 3) rfl rfl (vp_in_nI (by omega) (by decide)) (show A 8 (nI i).toNatClampNeg = nI (eW A (i)) by rw [nI_clamp (by omega)]; exact (eW_of hw (by omega)).1) ?_
        iterate 2 (refine zv_step (bX7_reckons 3) rfl rfl trivial ?_)
        refine zv_ifb (fun h86 => ?_) (fun h86 => ?_)
        · have q86 : ¬ eW A (i) = 29 := fun e => h86 (by rw [e]; rfl)
          iterate 4 (refine zv_step (bX7_reckons 3) rfl rfl trivial ?_)
          refine zv_iff (by decide) ?_
          iterate 15 (refine zv_step (bX7_reckons 3) rfl rfl trivial ?_)
          refine zv_step (bX7_reckons 3) rfl rfl (show vp_in (c8 20 * (c8 21 * nI i + nI j) + nI d) 8820 by rw [show c8 20 * (c8 21 * nI i + nI j) + nI d = nI (20 * (21 * i + j) + d) by rw [ix21, ix20m]]; exact vp_in_nI (by omega) (by decide)) ?_
          iterate 2 (refine zv_step (bX7_reckons 3) rfl rfl trivial ?_)
          refine zv_S2 (bX7_reckons 3) rfl rfl rfl rfl ⟨rfl, rfl, rfl⟩ ⟨by decide, by decide⟩ ⟨Nat.zero_le _, Nat.zero_le _⟩ (mPlus _ (csW_le _ _) (a := csW (mW A s (lW J) i j) d) (b := 0) (Nat.zero_le _)) ?_
          rintro _ _ ⟨rfl, rfl⟩
          iterate 3 (refine zv_step (bX7_reckons 3) rfl rfl trivial ?_)
          have e9 : mW A s (lW J) i j d = 0 := mW_x q50 (fun e => q86 e.1)
          refine zv_world (show _ = wR f o A (updJ J 0 (vp_updL g (20 * (21 * i + j) + d) (lN (mW A s (lW J) i j d)))) from by rw [e9, show 20 * (21 * i + j) + d = (c8 20 * (c8 21 * nI i + nI j) + nI d).toNatClampNeg by rw [show c8 20 * (c8 21 * nI i + nI j) + nI d = nI (20 * (21 * i + j) + d) by rw [ix21, ix20m], nI_clamp (by omega)]]; rfl) ?_
          have e10 : csW (mW A s (lW J) i j) (d + 1) = plW (csW (mW A s (lW J) i j) d) (0) := by
            show plW _ _ = _
            rw [e9]
          have h9 := ih (d + 1) (vp_updL g (20 * (21 * i + j) + d) (lN (mW A s (lW J) i j d))) (by omega) (fun x hx => by
            unfold vp_updL
            rw [if_neg (by omega)]
            exact hg1 x hx) (fun x hx => by
            unfold vp_updL
            split
            · rename_i e
              rw [show x = d by omega]
            · exact hg2 x (by omega)) (x7 := nI d + Int32.ofInt 1) (nI_1 d)
          rw [e10] at h9
          refine zv_locals (l := [(7, .int (nI d + Int32.ofInt 1)), (5, .long (lN (plW (csW (mW A s (lW J) i j) d) (0)))), (10, .long (lN (0))), (9, .int (Int32.ofInt 0)), (8, .int (Int32.ofInt 1)), (4, .int (nI j)), (3, .int (nI i)), (2, .int (nI n)), (0, .ref 76), (1, .int (nI s))]) (l' := [(7, .int (nI d + Int32.ofInt 1)), (5, .long (lN (plW (csW (mW A s (lW J) i j) d) (0)))), (4, .int (nI j)), (3, .int (nI i)), (2, .int (nI n)), (0, .ref 76), (1, .int (nI s))]) ?_ h9
          simp
        · have q86 : eW A (i) = 29 := (nI_eq (by have := (eW_of hw (show i < h by omega)).2; omega) (by decide)).mp (Decidable.not_not.mp h86)
          iterate 5 (refine zv_step (bX7_reckons 3) rfl rfl trivial ?_)
          refine zv_iale (bX7_reckons 3) rfl rfl (show vp_in (nI j - Int32.ofInt 1) 20 by rw [show nI j - Int32.ofInt 1 = nI (j - 1) from sub_1 (by omega)]; exact vp_in_nI (by omega) (by decide)) (show A 8 (nI j - Int32.ofInt 1).toNatClampNeg = nI (eW A (j - 1)) by rw [show nI j - Int32.ofInt 1 = nI (j - 1) from sub_1 (by omega), nI_clamp (by omega)]; exact (eW_of hw (by omega)).1) ?_
          iterate 2 (refine zv_step (bX7_reckons 3) rfl rfl trivial ?_)
          refine zv_ifb (fun h100 => ?_) (fun h100 => ?_)
          · have q100 : ¬ eW A (j - 1) = 30 := fun e => h100 (by rw [e]; rfl)
            iterate 4 (refine zv_step (bX7_reckons 3) rfl rfl trivial ?_)
            refine zv_iff (by decide) ?_
            iterate 15 (refine zv_step (bX7_reckons 3) rfl rfl trivial ?_)
            refine zv_step (bX7_reckons 3) rfl rfl (show vp_in (c8 20 * (c8 21 * nI i + nI j) + nI d) 8820 by rw [show c8 20 * (c8 21 * nI i + nI j) + nI d = nI (20 * (21 * i + j) + d) by rw [ix21, ix20m]]; exact vp_in_nI (by omega) (by decide)) ?_
            iterate 2 (refine zv_step (bX7_reckons 3) rfl rfl trivial ?_)
            refine zv_S2 (bX7_reckons 3) rfl rfl rfl rfl ⟨rfl, rfl, rfl⟩ ⟨by decide, by decide⟩ ⟨Nat.zero_le _, Nat.zero_le _⟩ (mPlus _ (csW_le _ _) (a := csW (mW A s (lW J) i j) d) (b := 0) (Nat.zero_le _)) ?_
            rintro _ _ ⟨rfl, rfl⟩
            iterate 3 (refine zv_step (bX7_reckons 3) rfl rfl trivial ?_)
            have e9 : mW A s (lW J) i j d = 0 := mW_x q50 (fun e => q100 e.2)
            refine zv_world (show _ = wR f o A (updJ J 0 (vp_updL g (20 * (21 * i + j) + d) (lN (mW A s (lW J) i j d)))) from by rw [e9, show 20 * (21 * i + j) + d = (c8 20 * (c8 21 * nI i + nI j) + nI d).toNatClampNeg by rw [show c8 20 * (c8 21 * nI i + nI j) + nI d = nI (20 * (21 * i + j) + d) by rw [ix21, ix20m], nI_clamp (by omega)]]; rfl) ?_
            have e10 : csW (mW A s (lW J) i j) (d + 1) = plW (csW (mW A s (lW J) i j) d) (0) := by
              show plW _ _ = _
              rw [e9]
            have h9 := ih (d + 1) (vp_updL g (20 * (21 * i + j) + d) (lN (mW A s (lW J) i j d))) (by omega) (fun x hx => by
              unfold vp_updL
              rw [if_neg (by omega)]
              exact hg1 x hx) (fun x hx => by
              unfold vp_updL
              split
              · rename_i e
                rw [show x = d by omega]
              · exact hg2 x (by omega)) (x7 := nI d + Int32.ofInt 1) (nI_1 d)
            rw [e10] at h9
            refine zv_locals (l := [(7, .int (nI d + Int32.ofInt 1)), (5, .long (lN (plW (csW (mW A s (lW J) i j) d) (0)))), (10, .long (lN (0))), (9, .int (Int32.ofInt 0)), (8, .int (Int32.ofInt 1)), (4, .int (nI j)), (3, .int (nI i)), (2, .int (nI n)), (0, .ref 76), (1, .int (nI s))]) (l' := [(7, .int (nI d + Int32.ofInt 1)), (5, .long (lN (plW (csW (mW A s (lW J) i j) d) (0)))), (4, .int (nI j)), (3, .int (nI i)), (2, .int (nI n)), (0, .ref 76), (1, .int (nI s))]) ?_ h9
            simp
          · have q100 : eW A (j - 1) = 30 := (nI_eq (by have := (eW_of hw (show j - 1 < h by omega)).2; omega) (by decide)).mp (Decidable.not_not.mp h100)
            iterate 5 (refine zv_step (bX7_reckons 3) rfl rfl trivial ?_)
            refine zv_ift (by decide) ?_
            iterate 2 (refine zv_step (bX7_reckons 3) rfl rfl trivial ?_)
            refine zv_iff (by decide) ?_
            iterate 3 (refine zv_step (bX7_reckons 3) rfl rfl trivial ?_)
            refine zv_step (bX7_reckons 3) rfl rfl (show ¬ Int32.ofInt 2 = 0 by decide) ?_
            iterate 6 (refine zv_step (bX7_reckons 3) rfl rfl trivial ?_)
            refine zv_V3 (bX7_reckons 3) rfl rfl rfl rfl rfl rfl rfl ⟨rfl, rfl, rfl⟩ ⟨by decide, by decide⟩ ⟨Nat.zero_le _, Nat.zero_le _⟩ (mWithin f o A (updJ J 0 g) hh hw (i := i + 1) (j := j - 1) (by omega) (by omega) (L := lW J) (okN_L hN (i := i + 1) (j := j - 1) (by omega) (by omega)) (k := d / 2) (by omega) (half (by omega)) (nI_1 i) (sub_1 (by omega))) ?_
            rintro _ _ ⟨rfl, rfl⟩
            iterate 14 (refine zv_step (bX7_reckons 3) rfl rfl trivial ?_)
            refine zv_step (bX7_reckons 3) rfl rfl (show vp_in (c8 20 * (c8 21 * nI i + nI j) + nI d) 8820 by rw [show c8 20 * (c8 21 * nI i + nI j) + nI d = nI (20 * (21 * i + j) + d) by rw [ix21, ix20m]]; exact vp_in_nI (by omega) (by decide)) ?_
            iterate 2 (refine zv_step (bX7_reckons 3) rfl rfl trivial ?_)
            refine zv_S2 (bX7_reckons 3) rfl rfl rfl rfl ⟨rfl, rfl, rfl⟩ ⟨by decide, by decide⟩ ⟨Nat.zero_le _, Nat.zero_le _⟩ (mPlus _ (csW_le _ _) (a := csW (mW A s (lW J) i j) d) (b := wi (eW A) (A 6) (lW J) (d / 2) (i + 1) (j - 1)) (wi_le (okN_L hN (i := i + 1) (j := j - 1) (by omega) (by omega)))) ?_
            rintro _ _ ⟨rfl, rfl⟩
            iterate 3 (refine zv_step (bX7_reckons 3) rfl rfl trivial ?_)
            have e9 : mW A s (lW J) i j d = wi (eW A) (A 6) (lW J) (d / 2) (i + 1) (j - 1) := mW_o q50 g1 q86 q100
            refine zv_world (show _ = wR f o A (updJ J 0 (vp_updL g (20 * (21 * i + j) + d) (lN (mW A s (lW J) i j d)))) from by rw [e9, show 20 * (21 * i + j) + d = (c8 20 * (c8 21 * nI i + nI j) + nI d).toNatClampNeg by rw [show c8 20 * (c8 21 * nI i + nI j) + nI d = nI (20 * (21 * i + j) + d) by rw [ix21, ix20m], nI_clamp (by omega)]]; rfl) ?_
            have e10 : csW (mW A s (lW J) i j) (d + 1) = plW (csW (mW A s (lW J) i j) d) (wi (eW A) (A 6) (lW J) (d / 2) (i + 1) (j - 1)) := by
              show plW _ _ = _
              rw [e9]
            have h9 := ih (d + 1) (vp_updL g (20 * (21 * i + j) + d) (lN (mW A s (lW J) i j d))) (by omega) (fun x hx => by
              unfold vp_updL
              rw [if_neg (by omega)]
              exact hg1 x hx) (fun x hx => by
              unfold vp_updL
              split
              · rename_i e
                rw [show x = d by omega]
              · exact hg2 x (by omega)) (x7 := nI d + Int32.ofInt 1) (nI_1 d)
            rw [e10] at h9
            refine zv_locals (l := [(7, .int (nI d + Int32.ofInt 1)), (5, .long (lN (plW (csW (mW A s (lW J) i j) d) (wi (eW A) (A 6) (lW J) (d / 2) (i + 1) (j - 1))))), (10, .long (lN (wi (eW A) (A 6) (lW J) (d / 2) (i + 1) (j - 1)))), (9, .int (Int32.ofInt 1)), (8, .int (Int32.ofInt 1)), (4, .int (nI j)), (3, .int (nI i)), (2, .int (nI n)), (0, .ref 76), (1, .int (nI s))]) (l' := [(7, .int (nI d + Int32.ofInt 1)), (5, .long (lN (plW (csW (mW A s (lW J) i j) d) (wi (eW A) (A 6) (lW J) (d / 2) (i + 1) (j - 1))))), (4, .int (nI j)), (3, .int (nI i)), (2, .int (nI n)), (0, .ref 76), (1, .int (nI s))]) ?_ h9
            simp
      · skip
        iterate 1 (refine zv_step (bX7_reckons 3) rfl rfl trivial ?_)
        refine zv_ift (by decide) ?_
        iterate 4 (refine zv_step (bX7_reckons 3) rfl rfl trivial ?_)
        refine zv_iff (by decide) ?_
        iterate 15 (refine zv_step (bX7_reckons 3) rfl rfl trivial ?_)
        refine zv_step (bX7_reckons 3) rfl rfl (show vp_in (c8 20 * (c8 21 * nI i + nI j) + nI d) 8820 by rw [show c8 20 * (c8 21 * nI i + nI j) + nI d = nI (20 * (21 * i + j) + d) by rw [ix21, ix20m]]; exact vp_in_nI (by omega) (by decide)) ?_
        iterate 2 (refine zv_step (bX7_reckons 3) rfl rfl trivial ?_)
        refine zv_S2 (bX7_reckons 3) rfl rfl rfl rfl ⟨rfl, rfl, rfl⟩ ⟨by decide, by decide⟩ ⟨Nat.zero_le _, Nat.zero_le _⟩ (mPlus _ (csW_le _ _) (a := csW (mW A s (lW J) i j) d) (b := 0) (Nat.zero_le _)) ?_
        rintro _ _ ⟨rfl, rfl⟩
        iterate 3 (refine zv_step (bX7_reckons 3) rfl rfl trivial ?_)
        have e9 : mW A s (lW J) i j d = 0 := mW_f (b := 1) q50 g1
        refine zv_world (show _ = wR f o A (updJ J 0 (vp_updL g (20 * (21 * i + j) + d) (lN (mW A s (lW J) i j d)))) from by rw [e9, show 20 * (21 * i + j) + d = (c8 20 * (c8 21 * nI i + nI j) + nI d).toNatClampNeg by rw [show c8 20 * (c8 21 * nI i + nI j) + nI d = nI (20 * (21 * i + j) + d) by rw [ix21, ix20m], nI_clamp (by omega)]]; rfl) ?_
        have e10 : csW (mW A s (lW J) i j) (d + 1) = plW (csW (mW A s (lW J) i j) d) (0) := by
          show plW _ _ = _
          rw [e9]
        have h9 := ih (d + 1) (vp_updL g (20 * (21 * i + j) + d) (lN (mW A s (lW J) i j d))) (by omega) (fun x hx => by
          unfold vp_updL
          rw [if_neg (by omega)]
          exact hg1 x hx) (fun x hx => by
          unfold vp_updL
          split
          · rename_i e
            rw [show x = d by omega]
          · exact hg2 x (by omega)) (x7 := nI d + Int32.ofInt 1) (nI_1 d)
        rw [e10] at h9
        refine zv_locals (l := [(7, .int (nI d + Int32.ofInt 1)), (5, .long (lN (plW (csW (mW A s (lW J) i j) d) (0)))), (10, .long (lN (0))), (9, .int (Int32.ofInt 0)), (8, .int (Int32.ofInt 1)), (4, .int (nI j)), (3, .int (nI i)), (2, .int (nI n)), (0, .ref 76), (1, .int (nI s))]) (l' := [(7, .int (nI d + Int32.ofInt 1)), (5, .long (lN (plW (csW (mW A s (lW J) i j) d) (0)))), (4, .int (nI j)), (3, .int (nI i)), (2, .int (nI n)), (0, .ref 76), (1, .int (nI s))]) ?_ h9
        simp
theorem span_ne {a b i j : Nat} (hb : b ≤ 20) (hj : j ≤ 20) (h : ¬ (a = i ∧ b = j)) : 21 * a + b ≠ 21 * i + j := by omega
theorem okN_step {h : Nat} (hh : h ≤ 20) {A : Nat → Nat → Int32} {s : Nat} {J : Nat → Nat → Int64} {i j n : Nat} (hij : i + n = j) (hn : 1 ≤ n) (hj : j ≤ h) (hN : okN h A s J n i) {g : Nat → Int64} (hg1 : (∀ x, ¬ (20 * (21 * i + j) ≤ x ∧ x < 20 * (21 * i + j) + 20) → g x = J 0 x)) (hg2 : (∀ x, x < 20 → g (20 * (21 * i + j) + x) = lN (mW A s (lW J) i j x))) : okN h A s (updJ (updJ J 0 g) 1 (vp_updL (J 1) (21 * i + j) (lN (csW (mW A s (lW J) i j) 20)))) n (i + 1) := by
  have f1 : ∀ x, x ≠ 21 * i + j → updJ (updJ J 0 g) 1 (vp_updL (J 1) (21 * i + j) (lN (csW (mW A s (lW J) i j) 20))) 1 x = J 1 x := fun x hx => if_neg hx
  have f0 : ∀ x, updJ (updJ J 0 g) 1 (vp_updL (J 1) (21 * i + j) (lN (csW (mW A s (lW J) i j) 20))) 0 x = g x := fun x => rfl
  intro a b hab hb hf
  by_cases e : a = i ∧ b = j
  · obtain ⟨rfl, rfl⟩ := e
    have eL : ∀ a' b', a ≤ a' → a' < b' → b' ≤ b → b' - a' < b - a → lW J a' b' = lW (updJ (updJ J 0 g) 1 (vp_updL (J 1) (21 * a + b) (lN (csW (mW A s (lW J) a b) 20)))) a' b' := fun a' b' h1 h2 h3 h4 => by
      exact congrArg (fun v : Int64 => v.toInt.toNat) (f1 _ (span_ne (by omega) (by omega) (by omega))).symm
    refine ⟨fun c hc => ?_, ?_⟩
    · rw [f0, hg2 c hc, mW_cg eL]
    · rw [csW_cg 20 (fun d _ => (mW_cg (c := d) eL).symm)]
      exact if_pos rfl
  · refine okS_fr hab (hN a b hab hb (by omega)) (fun a' b' h1 h2 h3 => f1 _ (span_ne (by omega) (by omega) (by omega))) (fun c hc => ?_)
    rw [f0]
    exact hg1 _ (by have := span_ne (a := a) (b := b) (i := i) (j := j) (by omega) (by omega) e; omega)
set_option maxHeartbeats 1000000 in
set_option maxRecDepth 20000 in
theorem rkI (f : Nat → zC) (o : Nat → Int32) (A : Nat → Nat → Int32) {h : Nat} (hh : h ≤ 20) (hw : nnW h (A 8)) (ho10 : o 10 = nI h) {s : Nat} (hs : s ≤ 8) (ho : o 28 = nI s) {n : Nat} (hn : 1 ≤ n) (hnh : n ≤ h) {n0 : Nat} {Q : Option Value → zW → Prop} (kk : ∀ J', okN h A s J' (n + 1) 0 → zV (zMo 3 zX7_reckons) false n0 0 0 210 [(2, .int (nI n)), (0, .ref 76), (1, .int (nI s))] [] (wR f o A J') Q) : ∀ (c i : Nat) (J : Nat → Nat → Int64), i + c + n = h + 1 → okN h A s J n i → ∀ {x3 : Int32}, x3 = nI i → zV (zMo 3 zX7_reckons) false n0 0 0 17 [(3, .int x3), (2, .int (nI n)), (0, .ref 76), (1, .int (nI s))] [] (wR f o A J) Q := by
  intro c
  induction c with
  | zero =>
    intro i J hc hN x3 e3
    subst e3
    iterate 6 (refine zv_step (bX7_reckons 3) rfl rfl trivial ?_)
    refine zv_ift (show o 10 < nI i + nI n by rw [ho10, nI_add]; exact nI_lt (by omega) (by omega)) ?_
    refine zv_locals (l := [(3, .int (nI i)), (2, .int (nI n)), (0, .ref 76), (1, .int (nI s))]) (l' := [(2, .int (nI n)), (0, .ref 76), (1, .int (nI s))]) ?_ (kk J (fun a b h1 h2 h3 => hN a b h1 h2 (by omega)))
    simp
  | succ c ih =>
    intro i J hc hN x3 e3
    subst e3
    iterate 6 (refine zv_step (bX7_reckons 3) rfl rfl trivial ?_)
    refine zv_iff (show ¬ o 10 < nI i + nI n by rw [ho10, nI_add]; exact nI_nlt (by omega) (by omega)) ?_
    iterate 8 (refine zv_step (bX7_reckons 3) rfl rfl trivial ?_)
    refine zv_world (show _ = wR f o A (updJ J 0 (J 0)) from rfl) ?_
    refine zv_locals (l := [(7, .int (Int32.ofInt 0)), (5, .long (lN 0)), (4, .int (nI i + nI n)), (3, .int (nI i)), (2, .int (nI n)), (0, .ref 76), (1, .int (nI s))]) (l' := [(7, .int (Int32.ofInt 0)), (5, .long (lN 0)), (4, .int (nI i + nI n)), (3, .int (nI i)), (2, .int (nI n)), (0, .ref 76), (1, .int (nI s))]) (fun q h => h) ?_
    rw [nI_add]
    refine rkC f o A J hh hw hs ho (i := i) (j := i + n) rfl hn (by omega) hN (fun g hg1 hg2 => ?_) 20 0 (J 0) (by omega) (fun _ _ => rfl) (fun x hx => absurd hx (by omega)) rfl
    iterate 8 (refine zv_step (bX7_reckons 3) rfl rfl trivial ?_)
    refine zv_step (bX7_reckons 3) rfl rfl (show vp_in (c8 21 * nI i + nI (i + n)) 441 by rw [ix21]; exact vp_in_nI (by omega) (by decide)) ?_
    iterate 2 (refine zv_step (bX7_reckons 3) rfl rfl trivial ?_)
    refine zv_world (show _ = wR f o A (updJ (updJ J 0 g) 1 (vp_updL (J 1) (21 * i + (i + n)) (lN (csW (mW A s (lW J) i (i + n)) 20)))) from by rw [show 21 * i + (i + n) = (c8 21 * nI i + nI (i + n)).toNatClampNeg by rw [ix21, nI_clamp (by omega)]]; rfl) ?_
    refine zv_locals (l := [(3, .int (nI i + Int32.ofInt 1)), (5, .long (lN (csW (mW A s (lW J) i (i + n)) 20))), (4, .int (nI (i + n))), (2, .int (nI n)), (0, .ref 76), (1, .int (nI s))]) (l' := [(3, .int (nI i + Int32.ofInt 1)), (2, .int (nI n)), (0, .ref 76), (1, .int (nI s))]) ?_ (ih (i + 1) _ (by omega) (okN_step hh rfl hn (by omega) hN hg1 hg2) (nI_1 i))
    simp
set_option maxHeartbeats 1000000 in
set_option maxRecDepth 20000 in
theorem rkN (f : Nat → zC) (o : Nat → Int32) (A : Nat → Nat → Int32) {h : Nat} (hh : h ≤ 20) (hw : nnW h (A 8)) (ho10 : o 10 = nI h) {s : Nat} (hs : s ≤ 8) (ho : o 28 = nI s) {n0 : Nat} : ∀ (c n : Nat) (J : Nat → Nat → Int64), n + c = h + 1 → 1 ≤ n → okN h A s J n 0 → ∀ {x2 : Int32}, x2 = nI n → zV (zMo 3 zX7_reckons) false n0 0 0 7 [(2, .int x2), (0, .ref 76), (1, .int (nI s))] [] (wR f o A J) (fun r w' => r = none ∧ ∃ J', w' = wR f o A J' ∧ okJ h A s J') := by
  intro c
  induction c with
  | zero =>
    intro n J hc hn hN x2 e2
    subst e2
    iterate 4 (refine zv_step (bX7_reckons 3) rfl rfl trivial ?_)
    refine zv_ift (show o 10 < nI n by rw [ho10]; exact nI_lt (by omega) (by omega)) ?_
    exact zv_ret (bX7_reckons 3) rfl rfl (Nat.zero_le _) (Nat.zero_le _) ⟨rfl, J, rfl, fun i j h1 h2 => hN i j h1 h2 (Or.inl (by omega))⟩
  | succ c ih =>
    intro n J hc hn hN x2 e2
    subst e2
    iterate 4 (refine zv_step (bX7_reckons 3) rfl rfl trivial ?_)
    refine zv_iff (show ¬ o 10 < nI n by rw [ho10]; exact nI_nlt (by omega) (by omega)) ?_
    iterate 2 (refine zv_step (bX7_reckons 3) rfl rfl trivial ?_)
    refine zv_locals (l := [(3, .int (Int32.ofInt 0)), (2, .int (nI n)), (0, .ref 76), (1, .int (nI s))]) (l' := [(3, .int (Int32.ofInt 0)), (2, .int (nI n)), (0, .ref 76), (1, .int (nI s))]) (fun q h => h) (rkI f o A hh hw ho10 hs ho hn (by omega) (fun J' hN' => ?_) (h + 1 - n) 0 J (by omega) hN rfl)
    iterate 2 (refine zv_step (bX7_reckons 3) rfl rfl trivial ?_)
    exact ih (n + 1) J' (by omega) (by omega) hN' (nI_1 n)
set_option maxHeartbeats 1000000 in
set_option maxRecDepth 20000 in
theorem mReckons (f : Nat → zC) (o : Nat → Int32) (A : Nat → Nat → Int32) (J : Nat → Nat → Int64) {h : Nat} (hh : h ≤ 20) (hw : nnW h (A 8)) (ho10 : o 10 = nI h) {s : Nat} (hs : s ≤ 8) {x : Int32} (ex : x = nI s) : zK 3 zX7_reckons [.ref 76, .int x] (wR f o A J) (fun r w' => r = none ∧ ∃ J', w' = wR f (upd o 28 (nI s)) A J' ∧ okJ h A s J') := by
  subst ex
  refine zK_of qX7_reckons (by decide +kernel) rfl ?_
  iterate 5 (refine zv_step (bX7_reckons 3) rfl rfl trivial ?_)
  refine zv_world (show _ = wR f (upd o 28 (nI s)) A J from rfl) ?_
  exact rkN f (upd o 28 (nI s)) A hh hw ho10 hs rfl h 1 J (by omega) (Nat.le_refl _) (fun a b h1 h2 h3 => absurd h3 (by omega)) rfl
def ctW (h : Nat) (J : Nat → Nat → Int64) : Nat := if h = 0 then 0 else lW J 0 h
set_option maxHeartbeats 1000000 in
set_option maxRecDepth 20000 in
theorem mCounted (f : Nat → zC) (o : Nat → Int32) (A : Nat → Nat → Int32) (J : Nat → Nat → Int64) {h : Nat} (hh : h ≤ 20) (hw : nnW h (A 8)) (ho10 : o 10 = nI h) {s : Nat} (hs : s ≤ 8) {x : Int32} (ex : x = nI s) : zK 4 zX7_counted [.ref 76, .int x] (wR f o A J) (fun r w' => ∃ J', r = some (.long (lN (ctW h J'))) ∧ w' = wR f (upd o 28 (nI s)) A J' ∧ okJ h A s J') := by
  refine zK_of qX7_counted (by decide +kernel) rfl ?_
  iterate 2 (refine zv_step (bX7_counted 4) rfl rfl trivial ?_)
  refine zv_V1 (bX7_counted 4) rfl rfl rfl rfl rfl rfl rfl ⟨rfl, rfl, rfl⟩ ⟨by decide, by decide⟩ ⟨Nat.zero_le _, Nat.zero_le _⟩ (mReckons f o A J hh hw ho10 hs ex) ?_
  rintro _ _ ⟨rfl, J', rfl, hJ⟩
  iterate 3 (refine zv_step (bX7_counted 4) rfl rfl trivial ?_)
  refine zv_ifb (fun h9 => ?_) (fun h9 => ?_)
  · have q9 : h ≠ 0 := fun e => h9 (by show o 10 = 0; rw [ho10, e]; rfl)
    iterate 4 (refine zv_step (bX7_counted 4) rfl rfl trivial ?_)
    refine zv_lale (bX7_counted 4) rfl rfl (show vp_in (o 10) 441 by rw [ho10]; exact vp_in_nI (by omega) (by decide)) (show J' 1 (o 10).toNatClampNeg = lN (ctW h J') by rw [ho10, nI_clamp (by omega)]; unfold ctW; rw [if_neg q9]; have := (okS_l (hJ 0 h (by omega) (Nat.le_refl _))).2.2; rw [show 21 * 0 + h = h by omega] at this; exact this) ?_
    exact zv_lret (bX7_counted 4) rfl rfl (Nat.zero_le _) (Nat.zero_le _) ⟨J', rfl, rfl, hJ⟩
  · have q9 : h = 0 := (nI_eq (by omega) (by decide)).mp (show nI h = nI 0 by rw [← ho10]; exact Decidable.not_not.mp h9)
    iterate 2 (refine zv_step (bX7_counted 4) rfl rfl trivial ?_)
    exact zv_lret (bX7_counted 4) rfl rfl (Nat.zero_le _) (Nat.zero_le _) ⟨J', by unfold ctW; rw [if_pos q9]; rfl, rfl, hJ⟩
set_option maxHeartbeats 1000000 in
set_option maxRecDepth 20000 in
theorem mReadings (f : Nat → zC) (o : Nat → Int32) (A : Nat → Nat → Int32) (J : Nat → Nat → Int64) {h : Nat} (hh : h ≤ 20) (hw : nnW h (A 8)) (ho10 : o 10 = nI h) (x : Int32) : zK 5 zX7_readings [.ref 76, .int x] (wR f o A J) (fun r w' => ∃ (R : Int64) (o' : Nat → Int32) (J' : Nat → Nat → Int64), r = some (.long R) ∧ w' = wR f o' A J' ∧ ∀ j, j ≠ 16 → j ≠ 28 → o' j = o j) := by
  refine zK_of qX7_readings (by decide +kernel) rfl ?_
  iterate 5 (refine zv_step (bX7_readings 5) rfl rfl trivial ?_)
  refine zv_S3 (bX7_readings 5) rfl rfl rfl rfl ⟨rfl, rfl, rfl⟩ ⟨by decide, by decide⟩ ⟨Nat.zero_le _, Nat.zero_le _⟩ (mIn _ _ _ _ (a := 0) (b := 8) (by decide) (by decide)) ?_
  rintro _ _ ⟨rfl, ⟨g1, rfl⟩ | ⟨g1, rfl⟩⟩
  · obtain ⟨s, hs, rfl⟩ := in_nat (x := x) (b := 8) (by decide) g1
    iterate 1 (refine zv_step (bX7_readings 5) rfl rfl trivial ?_)
    refine zv_iff (by decide) ?_
    iterate 6 (refine zv_step (bX7_readings 5) rfl rfl trivial ?_)
    refine zv_iff (by decide) ?_
    iterate 2 (refine zv_step (bX7_readings 5) rfl rfl trivial ?_)
    refine zv_V1 (bX7_readings 5) rfl rfl rfl rfl rfl rfl rfl ⟨rfl, rfl, rfl⟩ ⟨by decide, by decide⟩ ⟨Nat.zero_le _, Nat.zero_le _⟩ (mCounted f (upd o 16 (Int32.ofInt 0)) A J hh hw ho10 hs rfl) ?_
    rintro _ _ ⟨J', rfl, rfl, hJ⟩
    iterate 1 (refine zv_step (bX7_readings 5) rfl rfl trivial ?_)
    exact zv_lret (bX7_readings 5) rfl rfl (Nat.zero_le _) (Nat.zero_le _) ⟨_, upd (upd o 16 (Int32.ofInt 0)) 28 (nI s), J', rfl, rfl, fun j a b => by rw [upd_ne _ _ b, upd_ne _ _ a]⟩
  · skip
    iterate 1 (refine zv_step (bX7_readings 5) rfl rfl trivial ?_)
    refine zv_ift (by decide) ?_
    iterate 5 (refine zv_step (bX7_readings 5) rfl rfl trivial ?_)
    refine zv_ift (by decide) ?_
    iterate 1 (refine zv_step (bX7_readings 5) rfl rfl trivial ?_)
    exact zv_lret (bX7_readings 5) rfl rfl (Nat.zero_le _) (Nat.zero_le _) ⟨_, upd o 16 (Int32.ofInt 1), J, rfl, rfl, fun j a b => upd_ne _ _ a⟩
end
section
def sW (g : Nat → Nat) : Nat → Nat
  | 0 => 0
  | c + 1 => sW g c + g c
theorem csW_s (g : Nat → Nat) : ∀ c, csW g c ≤ sW g c
  | 0 => Nat.le_refl _
  | c + 1 => Nat.le_trans (plW_le _ _).2 (Nat.add_le_add_right (csW_s g c) _)
/-- READINGS by a pair of KIND k whose word stands ahead of place a + 1 + c -/
def pfS (E : Nat → Nat) (L : Nat → Nat → Nat) (k a b : Nat) : Nat → Nat
  | 0 => 0
  | c + 1 => pfS E L k a b c + (if E (a + 1 + c) = 18 + k then tmW (L a (a + 1 + c)) (L (a + 1 + c + 1) b) else 0)
theorem wiP_pf {E : Nat → Nat} {L : Nat → Nat → Nat} {k a b : Nat} : ∀ (c d n : Nat), n ≤ pfS E L k a b d → wiP E L k a b c (a + 1 + d) n ≤ pfS E L k a b (d + c)
  | 0, d, n, h => h
  | c + 1, d, n, h => by
    show wiP E L k a b c (a + 1 + d + 1) _ ≤ _
    rw [show d + (c + 1) = d + 1 + c by omega]
    refine wiP_pf c (d + 1) _ ?_
    show _ ≤ pfS E L k a b d + _
    split
    · exact Nat.le_trans (plW_le _ _).2 (Nat.add_le_add_right h _)
    · exact h
/-- what a NODE of KIND k owes that says the words a .. b, PLACE q among those of its KIND -/
def Rk (E : Nat → Nat) (L : Nat → Nat → Nat) (A : Nat → Nat → Int32) (R : Nat → Nat → Nat → Nat → Prop) (k a b q n : Nat) : Prop :=
  (k = 0 ∧ A 2 n = m2 ∧ A 3 n = m2) ∨ (k = 1 ∧ A 2 n = m2 ∧ A 3 n = m2 ∧ dgN (A 1 n) = b - a) ∨
  (k = 7 ∧ ∃ x, 400 ≤ x ∧ x < n ∧ A 2 n = nI x ∧ A 3 n = m2 ∧ R (a + 1) b q x) ∨
  (k = 8 ∧ ∃ x, 400 ≤ x ∧ x < n ∧ A 2 n = nI x ∧ A 3 n = m2 ∧ R (a + 1) (b - 1) q x) ∨
  (k = 9 ∧ ∃ x, 400 ≤ x ∧ x < n ∧ A 2 n = nI x ∧ A 3 n = m2 ∧ R (a + 2) b q x) ∨
  (2 ≤ k ∧ k ≤ 6 ∧ ∃ c r x y, a + 1 + c + 1 < b ∧ E (a + 1 + c) = 18 + k ∧ q = pfS E L k a b c + r ∧ r < tmW (L a (a + 1 + c)) (L (a + 1 + c + 1) b) ∧ 400 ≤ x ∧ x < n ∧ 400 ≤ y ∧ y < n ∧ A 2 n = nI x ∧ A 3 n = nI y ∧ R a (a + 1 + c) (r / L (a + 1 + c + 1) b) x ∧ R (a + 1 + c + 1) b (r % L (a + 1 + c + 1) b) y)
/-- NODE n is READING p of the words i .. j -/
def Rd (E : Nat → Nat) (M : Nat → Nat → Nat → Nat) (L : Nat → Nat → Nat) (A : Nat → Nat → Int32) : Nat → Nat → Nat → Nat → Nat → Prop
  | 0, _, _, _, _ => False
  | f + 1, i, j, p, n => ∃ c q, c < 20 ∧ p = sW (M i j) c + q ∧ q < M i j c ∧ A 0 n = nI (c / 2) ∧ Rk E L A (Rd E M L A f) (c / 2) (i + c % 2) (j - c % 2) q n
theorem Rk_fr {E : Nat → Nat} {L : Nat → Nat → Nat} {A A' : Nat → Nat → Int32} {R R' : Nat → Nat → Nat → Nat → Prop} {k a b q n : Nat} (hn : 400 ≤ n) (e : ∀ r, r < 4 → ∀ x, 400 ≤ x → x ≤ n → A' r x = A r x) (hR : ∀ i j p x, 400 ≤ x → x < n → R i j p x → R' i j p x) (h : Rk E L A R k a b q n) : Rk E L A' R' k a b q n := by
  have e1 := e 1 (by decide) n hn (Nat.le_refl _)
  have e2 := e 2 (by decide) n hn (Nat.le_refl _)
  have e3 := e 3 (by decide) n hn (Nat.le_refl _)
  unfold Rk
  rw [e1, e2, e3]
  rcases h with h | h | ⟨k7, x, x1, x2, h2, h3, hr⟩ | ⟨k7, x, x1, x2, h2, h3, hr⟩ | ⟨k7, x, x1, x2, h2, h3, hr⟩ | ⟨k1, k6, c, r, x, y, hc, hE, hq, hr, x1, x2, y1, y2, h2, h3, rx, ry⟩
  · exact Or.inl h
  · exact Or.inr (Or.inl h)
  · exact Or.inr (Or.inr (Or.inl ⟨k7, x, x1, x2, h2, h3, hR _ _ _ _ x1 x2 hr⟩))
  · exact Or.inr (Or.inr (Or.inr (Or.inl ⟨k7, x, x1, x2, h2, h3, hR _ _ _ _ x1 x2 hr⟩)))
  · exact Or.inr (Or.inr (Or.inr (Or.inr (Or.inl ⟨k7, x, x1, x2, h2, h3, hR _ _ _ _ x1 x2 hr⟩))))
  · exact Or.inr (Or.inr (Or.inr (Or.inr (Or.inr ⟨k1, k6, c, r, x, y, hc, hE, hq, hr, x1, x2, y1, y2, h2, h3, hR _ _ _ _ x1 x2 rx, hR _ _ _ _ y1 y2 ry⟩))))
theorem Rd_fr {E : Nat → Nat} {M : Nat → Nat → Nat → Nat} {L : Nat → Nat → Nat} {A A' : Nat → Nat → Int32} : ∀ (f i j p n : Nat), 400 ≤ n → (∀ r, r < 4 → ∀ x, 400 ≤ x → x ≤ n → A' r x = A r x) → Rd E M L A f i j p n → Rd E M L A' f i j p n
  | 0, _, _, _, _, _, _, h => h
  | f + 1, i, j, p, n, hn, e, ⟨c, q, h1, h2, h3, h4, h5⟩ => ⟨c, q, h1, h2, h3, (e 0 (by decide) n hn (Nat.le_refl _)).trans h4, Rk_fr hn e (fun i j p x x1 x2 hr => Rd_fr f i j p x x1 (fun r hr0 y y1 y2 => e r hr0 y y1 (by omega)) hr) h5⟩
/-- NODES were made from place 400 + q on; the last is 400 + q1, and has them all -/
def tkF (A : Nat → Nat → Int32) (q : Nat) (A' : Nat → Nat → Int32) (q1 len : Nat) : Prop := (∀ r, 6 ≤ r → A' r = A r) ∧ tbI 400 (400 + (q1 + 1)) A' ∧ (∀ r x, x < 400 + q → A' r x = A r x) ∧ q ≤ q1 ∧ q1 + 1 - q ≤ len ∧ szN A' (400 + q1) = q1 + 1 - q
theorem szN_new {A : Nat → Nat → Int32} {n z : Nat} {k v x y : Int32} (h : Int32.ofInt 1 + rdv (A 4) x + rdv (A 4) y = nI z) (hz : z ≤ 40) : szN (setsA A n k v x y) n = z := szN_of (A := setsA A n k v x y) ((upd_self _ _ _).trans h) hz
theorem tkF_lf {A : Nat → Nat → Int32} {q : Nat} (hT : tbI 400 (400 + q) A) (hq : q < 45) {k : Nat} {v : Int32} (hk : k < 2) (hv : (k = 0 → ∃ w : Nat, w ≤ 9 ∧ v = nI w) ∧ (k = 1 → ∃ w : Nat, w ≤ 9999 ∧ v = nI w)) {len : Nat} (hl : 1 ≤ len) : tkF A q (setsA A (400 + q) (nI k) v m2 m2) q len :=
  ⟨fun r hr => setsA_r hr, tbI_sets hT (by omega) (by omega) (by omega) (Or.inl ⟨hk, rfl, rfl⟩) ⟨fun h => hv.1 (by omega), hv.2, fun h => absurd h (by omega)⟩, fun r x hx => setsA_o (by omega), Nat.le_refl _, by omega, by rw [szN_new (z := 1) (by rw [rdv_m2]; decide) (by decide)]; omega⟩
theorem tkF_un {A A1 : Nat → Nat → Int32} {q q1 l1 len : Nat} (h : tkF A q A1 q1 l1) (hl : l1 + 1 ≤ len) (h40 : len ≤ 40) (hq : q1 < 45) {k : Nat} {v : Int32} (k7 : 7 ≤ k) (k9 : k ≤ 9) (hv : (k = 9 → ∃ w : Nat, w ≤ 9 ∧ v = nI w) ∧ (k ≤ 8 → v = m2)) : tkF A q (setsA A1 (400 + (q1 + 1)) (nI k) v (nI (400 + q1)) m2) (q1 + 1) len := by
  obtain ⟨h1, h2, h3, h4, h5, h6⟩ := h
  refine ⟨fun r hr => (setsA_r hr).trans (h1 r hr), tbI_sets h2 (by omega) (by omega) (by omega) (Or.inr (Or.inr ⟨k7, 400 + q1, rfl, by omega, by omega, rfl, by omega⟩)) ⟨fun e => hv.1 (by omega), fun e => absurd e (by omega), fun _ e => hv.2 e⟩, fun r x hx => (setsA_o (by omega)).trans (h3 r x hx), by omega, by omega, ?_⟩
  rw [szN_new (z := q1 + 1 + 1 - q) ?_ (by omega)]
  rw [rdv_nI (by omega), rdv_m2, (rN_sz (h2 (400 + q1) (by omega) (by omega))).2.2, h6, show Int32.ofInt 1 = nI 1 from rfl, show Int32.ofInt 0 = nI 0 from rfl, nI_add, nI_add]
  congr 1
  omega
theorem tkF_bi {A A1 A2 : Nat → Nat → Int32} {q q1 q2 l1 l2 len : Nat} (h : tkF A q A1 q1 l1) (g : tkF A1 (q1 + 1) A2 q2 l2) (hl : l1 + l2 + 1 ≤ len) (h40 : len ≤ 40) (hq : q2 < 45) {k : Nat} (k2 : 2 ≤ k) (k6 : k ≤ 6) : tkF A q (setsA A2 (400 + (q2 + 1)) (nI k) m2 (nI (400 + q1)) (nI (400 + q2))) (q2 + 1) len := by
  obtain ⟨h1, h2, h3, h4, h5, h6⟩ := h
  obtain ⟨g1, g2, g3, g4, g5, g6⟩ := g
  have e1 : szN A2 (400 + q1) = q1 + 1 - q := by
    unfold szN at h6 ⊢
    rw [g3 4 (400 + q1) (by omega)]
    exact h6
  refine ⟨fun r hr => (setsA_r hr).trans ((g1 r hr).trans (h1 r hr)), tbI_sets g2 (by omega) (by omega) (by omega) (Or.inr (Or.inl ⟨k2, k6, 400 + q1, 400 + q2, rfl, by omega, by omega, rfl, by omega, by omega, by omega⟩)) ⟨fun e => absurd e (by omega), fun e => absurd e (by omega), fun _ _ => rfl⟩, fun r x hx => (setsA_o (by omega)).trans ((g3 r x (by omega)).trans (h3 r x hx)), by omega, by omega, ?_⟩
  rw [szN_new (z := q2 + 1 + 1 - q) ?_ (by omega)]
  rw [rdv_nI (by omega), rdv_nI (by omega), (rN_sz (g2 (400 + q1) (by omega) (by omega))).2.2, (rN_sz (g2 (400 + q2) (by omega) (by omega))).2.2, e1, g6, show Int32.ofInt 1 = nI 1 from rfl, nI_add, nI_add]
  congr 1
  omega
theorem e400 : (Int16.ofInt 400).toInt32 = nI 400 := by decide +kernel
set_option maxHeartbeats 1000000 in
set_option maxRecDepth 20000 in
theorem mMakes (f : Nat → zC) (o : Nat → Int32) (A : Nat → Nat → Int32) (J : Nat → Nat → Int64) {q : Nat} (hq : q < 50) {k v x y : Int32} (hx : 0 ≤ x → vp_in x 450) (hy : 0 ≤ y → vp_in y 450) : zK 1 zX7_makes [.ref 76, .int k, .int v, .int x, .int y] (wR f (upd o 29 (nI q)) A J) (fun r w' => r = some (.int (nI (400 + q))) ∧ w' = wR f (upd o 29 (nI (q + 1))) (setsA A (400 + q) k v x y) J) := by
  refine zK_of qX7_makes (by decide +kernel) rfl ?_
  iterate 9 (refine zv_step (bX7_makes 1) rfl rfl trivial ?_)
  refine zv_V5 (bX7_makes 1) rfl rfl rfl rfl rfl rfl rfl ⟨rfl, rfl, rfl⟩ ⟨by decide, by decide⟩ ⟨Nat.zero_le _, Nat.zero_le _⟩ (mSetsE f (upd o 29 (nI q)) A J (show (Int16.ofInt 400).toInt32 + nI q = nI (400 + q) by rw [e400, nI_add]) (by omega) hx hy) ?_
  rintro _ _ ⟨rfl, rfl⟩
  iterate 12 (refine zv_step (bX7_makes 1) rfl rfl trivial ?_)
  exact zv_iret (bX7_makes 1) rfl (Or.inl rfl) (Nat.zero_le _) (Nat.zero_le _) ⟨by show some (Value.int ((Int16.ofInt 400).toInt32 + (nI q + Int32.ofInt 1) - Int32.ofInt 1)) = _; rw [show nI q + Int32.ofInt 1 = nI (q + 1) from nI_1 q, e400, nI_add, show nI (400 + (q + 1)) - Int32.ofInt 1 = nI (400 + q) from nI_m1 (400 + q)], by rw [show nI (q + 1) = nI q + Int32.ofInt 1 from (nI_1 q).symm]; rfl⟩
end
