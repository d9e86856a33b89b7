theorem mSayAllE (f : Nat → zC) (o : Nat → Int32) (A : Nat → Nat → Int32) (J : Nat → Nat → Int64) {lo hi : Nat} (hh : hi ≤ 450) (hT : tbI lo hi A) (hB : blI A) {s n : Nat} (hs : s < 8) (hlo : lo ≤ n) (hn : n < hi) {x : Int32} (e : x = nI n) : zK 43 zX7_sayAll [.ref 76, .int (nI s), .int x] (wR f o A J) (fun r w' => r = none ∧ ∃ (m' : Int32) (g' : Nat → Int32), w' = wZ f (upd o 19 (Int32.ofInt (-1))) A J (lnW A s 40 (nI n)) m' g' ∧ nnW (lnW A s 40 (nI n)) g') := e ▸ mSayAll f o A J hh hT hB hs hlo hn
/-- small trees stand from place 120 on -/
def smI (m : Nat) (A : Nat → Nat → Int32) : Prop := tbI 120 (120 + m) A ∧ (∀ n, 120 ≤ n → n < 120 + m → szN A n ≤ 4) ∧ (∀ n, 120 ≤ n → n < 120 + m → A 0 n = nI 1 → A 1 n = nI 1) ∧ blI A
theorem smI_fr {m : Nat} {A A' : Nat → Nat → Int32} (h : smI m A) (e : ∀ r, r < 8 → A' r = A r) : smI m A' := by
  obtain ⟨a, b, c, d⟩ := h
  refine ⟨tbI_fr a (fun r hr i _ _ => by rw [e r (by omega)]), fun n h1 h2 => ?_, fun n h1 h2 => ?_, fun i => ?_, fun i => ?_⟩
  · unfold szN
    rw [e 4 (by decide)]
    exact b n h1 h2
  · rw [e 0 (by decide), e 1 (by decide)]
    exact c n h1 h2
  · rw [e 6 (by decide)]
    exact d.1 i
  · rw [e 7 (by decide)]
    exact d.2 i
theorem lnW_4 {lo hi : Nat} {A : Nat → Nat → Int32} (hh : hi ≤ 450) (hT : tbI lo hi A) (h1 : ∀ n, lo ≤ n → n < hi → A 0 n = nI 1 → A 1 n = nI 1) (s : Nat) : ∀ (z : Nat) (x : Int32), pt lo hi A z x → lnW A s z x ≤ 4 * (if x < 0 then 0 else szN A x.toNatClampNeg) := by
  intro z
  induction z with
  | zero => exact fun x _ => Nat.zero_le _
  | succ z ih =>
    intro x hx
    rcases hx with rfl | ⟨n, rfl, hlo, hn, hz⟩
    · rw [lnW_m2]
      exact Nat.zero_le _
    · obtain ⟨k, hk, h0⟩ := rN_kd (hT n hlo hn)
      obtain ⟨hp2, hp3⟩ := rN_parts hT hlo hn hz
      have i2 := ih _ hp2
      have i3 := ih _ hp3
      rw [lnW_nI (by omega) hk h0, if_neg (nI_pos (by omega)), nI_clamp (by omega)]
      have ho : ownW A n ≤ 2 := by
        unfold ownW
        split
        · rename_i e
          rw [h1 n hlo hn e]
          decide
        · split <;> decide
      have hc : (if A 7 (10 * s + k) = 0 then 0 else 2) ≤ 2 := by split <;> decide
      obtain ⟨k, y, _, _, h4, hy, hs, _⟩ := hT n hlo hn
      rw [szN_of h4 hy]
      rcases hs with ⟨_, h2, h3, e⟩ | ⟨_, _, a, b, h2, la, ha, h3, lb, hb, e⟩ | ⟨_, a, h2, la, ha, h3, e⟩
      · rw [h2, if_pos (by decide)] at i2
        rw [h3, if_pos (by decide)] at i3
        rw [h2, h3]
        omega
      · rw [h2, if_neg (nI_pos (by omega)), nI_clamp (by omega)] at i2
        rw [h3, if_neg (nI_pos (by omega)), nI_clamp (by omega)] at i3
        rw [h2, h3]
        omega
      · rw [h2, if_neg (nI_pos (by omega)), nI_clamp (by omega)] at i2
        rw [h3, if_pos (by decide)] at i3
        rw [h2, h3]
        omega
theorem smI_ln {m : Nat} {A : Nat → Nat → Int32} (h : smI m A) (hm : m ≤ 280) (s : Nat) {a : Nat} (ha : a < m) : lnW A s 40 (nI (120 + a)) ≤ 20 := by
  have q := lnW_4 (by omega) h.1 h.2.2.1 s 40 (nI (120 + a)) (pt_of h.1 (by omega) (by omega))
  have z := h.2.1 (120 + a) (by omega) (by omega)
  rw [if_neg (nI_pos (by omega)), nI_clamp (by omega)] at q
  omega
def clX (o : Nat → Int32) (A : Nat → Nat → Int32) (o' : Nat → Int32) (A' : Nat → Nat → Int32) : Prop := (∀ j, ¬ (18 ≤ j ∧ j ≤ 23) → o' j = o j) ∧ (∀ r i, i < 120 → r < 6 → A' r i = A r i) ∧ (∀ r, 6 ≤ r → ¬ (14 ≤ r ∧ r ≤ 17) → A' r = A r)
theorem clX_refl (o : Nat → Int32) (A : Nat → Nat → Int32) : clX o A o A := ⟨fun _ _ => rfl, fun _ _ _ _ => rfl, fun _ _ _ => rfl⟩
theorem clX_trans {o o1 o2 : Nat → Int32} {A A1 A2 : Nat → Nat → Int32} (h : clX o A o1 A1) (k : clX o1 A1 o2 A2) : clX o A o2 A2 := ⟨fun j a => (k.1 j a).trans (h.1 j a), fun r i a b => (k.2.1 r i a b).trans (h.2.1 r i a b), fun r a b => (k.2.2 r a b).trans (h.2.2 r a b)⟩
theorem clX_q {o o' : Nat → Int32} {A A' : Nat → Nat → Int32} (q : qX o A o' A') : clX o A o' A' := ⟨fun j a => q.1 j (by omega), fun r i a b => by rw [q.2 r (by omega) (by omega)], fun r a b => q.2 r (by omega) (by omega)⟩
theorem clX_r (o : Nat → Int32) (A : Nat → Nat → Int32) {k : Nat} (g : Nat → Int32) (h : 14 ≤ k ∧ k ≤ 17) : clX o A o (updA A k g) := ⟨fun _ _ => rfl, fun r i a b => by rw [updA_ne _ _ (by omega)], fun r a b => updA_ne _ _ (by omega)⟩
def mnI (m : Nat) (A : Nat → Nat → Int32) : Prop := ∀ b, b < m → ∃ q : Nat, q ≤ 20 ∧ A 17 b = nI q
theorem ix20 {a i : Nat} : c8 20 * nI a + nI i = nI (20 * a + i) := by
  show Int32.ofNat 20 * Int32.ofNat a + Int32.ofNat i = _
  rw [← Int32.ofNat_mul, ← Int32.ofNat_add]
  rfl
set_option maxHeartbeats 1000000 in
set_option maxRecDepth 20000 in
theorem sameL (f : Nat → zC) (o : Nat → Int32) (A : Nat → Nat → Int32) (J : Nat → Nat → Int64) {a b p : Nat} (ha : a < 280) (hb : b < 280) (hp9 : p ≤ 20) (hp : A 17 a = nI p) {n0 : Nat} : ∀ (c i : Nat), i + c = p → ∀ {x4 c3 : Int32}, x4 = nI i → (c3 = 0 ∨ c3 = 1) → zV (zMo 0 zX7_isSame) false n0 0 0 24 [(4, .int x4), (3, .int c3), (0, .ref 76), (1, .int (nI a)), (2, .int (nI b))] [] (wR f o A J) (fun r w' => w' = (wR f o A J) ∧ (r = some (.int 1) ∨ r = some (.int 0))) := by
  intro c
  induction c with
  | zero =>
    intro i hi x4 c3 e4 hc
    subst e4
    iterate 4 (refine zv_step (bX7_isSame 0) rfl rfl trivial ?_)
    refine zv_iale (bX7_isSame 0) rfl rfl (vp_in_nI (by omega) (by decide)) (show A 17 (nI a).toNatClampNeg = nI p by rw [nI_clamp (by omega)]; exact hp) ?_
    iterate 1 (refine zv_step (bX7_isSame 0) rfl rfl trivial ?_)
    refine zv_ift (nI_le (by omega) (by omega)) ?_
    iterate 1 (refine zv_step (bX7_isSame 0) rfl rfl trivial ?_)
    exact zv_iret (bX7_isSame 0) rfl (Or.inr ⟨rfl, hc⟩) (Nat.zero_le _) (Nat.zero_le _) ⟨rfl, hc.symm.imp (fun e => by rw [e]) (fun e => by rw [e])⟩
  | succ c ih =>
    intro i hi x4 c3 e4 hc
    subst e4
    iterate 4 (refine zv_step (bX7_isSame 0) rfl rfl trivial ?_)
    refine zv_iale (bX7_isSame 0) rfl rfl (vp_in_nI (by omega) (by decide)) (show A 17 (nI a).toNatClampNeg = nI p by rw [nI_clamp (by omega)]; exact hp) ?_
    iterate 1 (refine zv_step (bX7_isSame 0) rfl rfl trivial ?_)
    refine zv_iff (fun h => absurd ((nI_leI (by omega) (by omega)).mp h) (by omega)) ?_
    iterate 2 (refine zv_step (bX7_isSame 0) rfl rfl trivial ?_)
    refine zv_ifb (fun h36 => ?_) (fun h36 => ?_)
    · iterate 1 (refine zv_step (bX7_isSame 0) rfl rfl trivial ?_)
      exact zv_iret (bX7_isSame 0) rfl (Or.inr ⟨rfl, hc⟩) (Nat.zero_le _) (Nat.zero_le _) ⟨rfl, hc.symm.imp (fun e => by rw [e]) (fun e => by rw [e])⟩
    · iterate 7 (refine zv_step (bX7_isSame 0) rfl rfl trivial ?_)
      refine zv_step (bX7_isSame 0) rfl rfl (show vp_in (c8 20 * nI a + nI i) 5600 by rw [ix20]; exact vp_in_nI (by omega) (by decide)) ?_
      iterate 7 (refine zv_step (bX7_isSame 0) rfl rfl trivial ?_)
      refine zv_step (bX7_isSame 0) rfl rfl (show vp_in (c8 20 * nI b + nI i) 5600 by rw [ix20]; exact vp_in_nI (by omega) (by decide)) ?_
      iterate 1 (refine zv_step (bX7_isSame 0) rfl rfl trivial ?_)
      refine zv_ifb (fun h63 => ?_) (fun h63 => ?_)
      · iterate 4 (refine zv_step (bX7_isSame 0) rfl rfl trivial ?_)
        refine zv_locals (l := [(4, .int (nI i + Int32.ofInt 1)), (3, .int (Int32.ofInt 0)), (0, .ref 76), (1, .int (nI a)), (2, .int (nI b))]) (l' := [(4, .int (nI i + Int32.ofInt 1)), (3, .int (Int32.ofInt 0)), (0, .ref 76), (1, .int (nI a)), (2, .int (nI b))]) (fun q h => h) (ih (i + 1) (by omega) (nI_1 i) (Or.inl rfl))
      · iterate 5 (refine zv_step (bX7_isSame 0) rfl rfl trivial ?_)
        refine zv_locals (l := [(4, .int (nI i + Int32.ofInt 1)), (3, .int (Int32.ofInt 1)), (0, .ref 76), (1, .int (nI a)), (2, .int (nI b))]) (l' := [(4, .int (nI i + Int32.ofInt 1)), (3, .int (Int32.ofInt 1)), (0, .ref 76), (1, .int (nI a)), (2, .int (nI b))]) (fun q h => h) (ih (i + 1) (by omega) (nI_1 i) (Or.inr rfl))
set_option maxHeartbeats 1000000 in
set_option maxRecDepth 20000 in
theorem mIsSame (f : Nat → zC) (o : Nat → Int32) (A : Nat → Nat → Int32) (J : Nat → Nat → Int64) {a b p : Nat} (ha : a < 280) (hb : b < 280) (hp9 : p ≤ 20) (hp : A 17 a = nI p) : zK 0 zX7_isSame [.ref 76, .int (nI a), .int (nI b)] (wR f o A J) (fun r w' => w' = (wR f o A J) ∧ (r = some (.int 1) ∨ r = some (.int 0))) := by
  refine zK_of qX7_isSame (by decide +kernel) rfl ?_
  iterate 3 (refine zv_step (bX7_isSame 0) rfl rfl trivial ?_)
  refine zv_step (bX7_isSame 0) rfl rfl (vp_in_nI (by omega) (by decide)) ?_
  iterate 3 (refine zv_step (bX7_isSame 0) rfl rfl trivial ?_)
  refine zv_step (bX7_isSame 0) rfl rfl (vp_in_nI (by omega) (by decide)) ?_
  iterate 1 (refine zv_step (bX7_isSame 0) rfl rfl trivial ?_)
  refine zv_ifb (fun h12 => ?_) (fun h12 => ?_)
  · iterate 4 (refine zv_step (bX7_isSame 0) rfl rfl trivial ?_)
    refine zv_locals (l := [(4, .int (Int32.ofInt 0)), (3, .int (Int32.ofInt 0)), (0, .ref 76), (1, .int (nI a)), (2, .int (nI b))]) (l' := [(4, .int (Int32.ofInt 0)), (3, .int (Int32.ofInt 0)), (0, .ref 76), (1, .int (nI a)), (2, .int (nI b))]) (fun q h => h) (sameL f o A J ha hb hp9 hp p 0 (by omega) rfl (Or.inl rfl))
  · iterate 5 (refine zv_step (bX7_isSame 0) rfl rfl trivial ?_)
    refine zv_locals (l := [(4, .int (Int32.ofInt 0)), (3, .int (Int32.ofInt 1)), (0, .ref 76), (1, .int (nI a)), (2, .int (nI b))]) (l' := [(4, .int (Int32.ofInt 0)), (3, .int (Int32.ofInt 1)), (0, .ref 76), (1, .int (nI a)), (2, .int (nI b))]) (fun q h => h) (sameL f o A J ha hb hp9 hp p 0 (by omega) rfl (Or.inr rfl))
set_option maxHeartbeats 1000000 in
set_option maxRecDepth 20000 in
theorem clrL2 (f : Nat → zC) (o : Nat → Int32) (A : Nat → Nat → Int32) (J : Nat → Nat → Int64) {s n a q : Nat} (ha : a < 280) (hq : q ≤ 20) (ho : o 18 = nI q) {n0 : Nat} {Q : Option Value → zW → Prop} (kk : ∀ g, zV (zMo 45 zX7_clear) false n0 0 0 130 [(3, .int (nI a)), (0, .ref 76), (1, .int (nI s)), (2, .int (nI n))] [] (wR f o (updA A 16 g) J) Q) : ∀ (c i : Nat) (g : Nat → Int32), i + c = q → ∀ {x4 : Int32}, x4 = nI i → zV (zMo 45 zX7_clear) false n0 0 0 96 [(4, .int x4), (3, .int (nI a)), (0, .ref 76), (1, .int (nI s)), (2, .int (nI n))] [] (wR f o (updA A 16 g) J) Q := by
  intro c
  induction c with
  | zero =>
    intro i g hi x4 e4
    subst e4
    iterate 4 (refine zv_step (bX7_clear 45) rfl rfl trivial ?_)
    refine zv_ift (show o 18 ≤ nI i by rw [ho]; exact nI_le (by omega) (by omega)) ?_
    refine zv_locals (l := [(4, .int (nI i)), (3, .int (nI a)), (0, .ref 76), (1, .int (nI s)), (2, .int (nI n))]) (l' := [(3, .int (nI a)), (0, .ref 76), (1, .int (nI s)), (2, .int (nI n))]) ?_ (kk g)
    simp
  | succ c ih =>
    intro i g hi x4 e4
    subst e4
    iterate 4 (refine zv_step (bX7_clear 45) rfl rfl trivial ?_)
    refine zv_iff (show ¬ o 18 ≤ nI i by rw [ho]; exact fun h => absurd ((nI_leI (by omega) (by omega)).mp h) (by omega)) ?_
    iterate 10 (refine zv_step (bX7_clear 45) rfl rfl trivial ?_)
    refine zv_step (bX7_clear 45) rfl rfl (vp_in_nI (by omega) (by decide)) ?_
    refine zv_step (bX7_clear 45) rfl rfl (show vp_in (c8 20 * nI a + nI i) 5600 by rw [ix20]; exact vp_in_nI (by omega) (by decide)) ?_
    iterate 2 (refine zv_step (bX7_clear 45) rfl rfl trivial ?_)
    refine zv_world (show _ = wR f o (updA A 16 (upd g (c8 20 * nI a + nI i).toNatClampNeg (A 14 (nI i).toNatClampNeg))) J from rfl) ?_
    exact ih (i + 1) _ (by omega) (nI_1 i)
set_option maxHeartbeats 1000000 in
set_option maxRecDepth 20000 in
theorem clrL1 (f : Nat → zC) (J : Nat → Nat → Int64) {o0 : Nat → Int32} {A0 : Nat → Nat → Int32} {s n m : Nat} (hs : s < 8) (hm : m ≤ 280) {n0 : Nat} {Q : Option Value → zW → Prop} (kk : ∀ (o' : Nat → Int32) (A' : Nat → Nat → Int32), o' 23 = nI m → smI m A' → mnI m A' → clX o0 A0 o' A' → zV (zMo 45 zX7_clear) false n0 0 0 136 [(0, .ref 76), (1, .int (nI s)), (2, .int (nI n))] [] (wR f o' A' J) Q) : ∀ (c a : Nat) (o : Nat → Int32) (A : Nat → Nat → Int32), a + c = m → o 23 = nI m → smI m A → mnI a A → clX o0 A0 o A → ∀ {x3 : Int32}, x3 = nI a → zV (zMo 45 zX7_clear) false n0 0 0 66 [(3, .int x3), (0, .ref 76), (1, .int (nI s)), (2, .int (nI n))] [] (wR f o A J) Q := by
  intro c
  induction c with
  | zero =>
    intro a o A ha ho hS hM hc x3 e3
    subst e3
    iterate 4 (refine zv_step (bX7_clear 45) rfl rfl trivial ?_)
    refine zv_ift (show o 23 ≤ nI a by rw [ho]; exact nI_le (by omega) (by omega)) ?_
    refine zv_locals (l := [(3, .int (nI a)), (0, .ref 76), (1, .int (nI s)), (2, .int (nI n))]) (l' := [(0, .ref 76), (1, .int (nI s)), (2, .int (nI n))]) ?_ (kk o A ho hS (by rw [show m = a by omega]; exact hM) hc)
    simp
  | succ c ih =>
    intro a o A ha ho hS hM hc x3 e3
    subst e3
    iterate 4 (refine zv_step (bX7_clear 45) rfl rfl trivial ?_)
    refine zv_iff (show ¬ o 23 ≤ nI a by rw [ho]; exact fun h => absurd ((nI_leI (by omega) (by omega)).mp h) (by omega)) ?_
    iterate 5 (refine zv_step (bX7_clear 45) rfl rfl trivial ?_)
    refine zv_V2 (bX7_clear 45) rfl rfl rfl rfl rfl rfl rfl ⟨rfl, rfl, rfl⟩ ⟨by decide, by decide⟩ ⟨Nat.zero_le _, Nat.zero_le _⟩ (mSayAllE f o A J (by omega) hS.1 hS.2.2.2 hs (n := 120 + a) (by omega) (by omega) (show c8 120 + nI a = nI (120 + a) from nI_add 120 a)) ?_
    rintro _ _ ⟨rfl, m1, g9, rfl, w9⟩
    iterate 5 (refine zv_step (bX7_clear 45) rfl rfl trivial ?_)
    refine zv_step (bX7_clear 45) rfl rfl (vp_in_nI (by omega) (by decide)) ?_
    iterate 2 (refine zv_step (bX7_clear 45) rfl rfl trivial ?_)
    have hln := smI_ln hS hm s (show a < m by omega)
    refine zv_world (show _ = wR f (upd (upd (upd o 19 (Int32.ofInt (-1))) 20 m1) 18 (nI (lnW A s 40 (nI (120 + a))))) (updA (updA (updA A 14 g9) 17 (upd (A 17) a (nI (lnW A s 40 (nI (120 + a)))))) 16 (A 16)) J from by rw [show upd (A 17) a (nI (lnW A s 40 (nI (120 + a)))) = upd (A 17) (nI a).toNatClampNeg (nI (lnW A s 40 (nI (120 + a)))) by rw [nI_clamp (by omega)]]; rfl) ?_
    refine clrL2 f (upd (upd (upd o 19 (Int32.ofInt (-1))) 20 m1) 18 (nI (lnW A s 40 (nI (120 + a))))) (updA (updA A 14 g9) 17 (upd (A 17) a (nI (lnW A s 40 (nI (120 + a)))))) J (by omega) hln rfl (fun g => ?_) (lnW A s 40 (nI (120 + a))) 0 (A 16) (by omega) rfl
    iterate 2 (refine zv_step (bX7_clear 45) rfl rfl trivial ?_)
    have e23 : (upd (upd (upd o 19 (Int32.ofInt (-1))) 20 m1) 18 (nI (lnW A s 40 (nI (120 + a))))) 23 = nI m := ho
    have q1 : smI m (updA (updA (updA A 14 g9) 17 (upd (A 17) a (nI (lnW A s 40 (nI (120 + a)))))) 16 g) := smI_fr hS (fun r hr => by rw [updA_ne _ _ (by omega), updA_ne _ _ (by omega), updA_ne _ _ (by omega)])
    have q2 : mnI (a + 1) (updA (updA (updA A 14 g9) 17 (upd (A 17) a (nI (lnW A s 40 (nI (120 + a)))))) 16 g) := by
      intro b hb
      rw [updA_ne _ _ (show 17 ≠ 16 by decide), updA_self]
      by_cases e : b = a
      · subst e
        exact ⟨_, hln, upd_self _ _ _⟩
      · rw [upd_ne _ _ e]
        exact hM b (by omega)
    have q3 : clX o0 A0 (upd (upd (upd o 19 (Int32.ofInt (-1))) 20 m1) 18 (nI (lnW A s 40 (nI (120 + a))))) (updA (updA (updA A 14 g9) 17 (upd (A 17) a (nI (lnW A s 40 (nI (120 + a)))))) 16 g) := clX_trans hc (clX_trans (clX_q (qX_say o A (Int32.ofInt (-1)) m1 (nI (lnW A s 40 (nI (120 + a)))) g9)) (clX_trans (clX_r _ _ (upd (A 17) a (nI (lnW A s 40 (nI (120 + a))))) (by decide)) (clX_r _ _ g (by decide))))
    exact ih (a + 1) (upd (upd (upd o 19 (Int32.ofInt (-1))) 20 m1) 18 (nI (lnW A s 40 (nI (120 + a))))) (updA (updA (updA A 14 g9) 17 (upd (A 17) a (nI (lnW A s 40 (nI (120 + a)))))) 16 g) (by omega) e23 q1 q2 q3 (nI_1 a)
set_option maxHeartbeats 1000000 in
set_option maxRecDepth 20000 in
theorem clrL4 (f : Nat → zC) (o : Nat → Int32) (A : Nat → Nat → Int32) (J : Nat → Nat → Int64) {s n a q : Nat} (ha : a < 280) (hq : q ≤ 20) (hp : A 17 a = nI q) {n0 : Nat} {Q : Option Value → zW → Prop} (hQ : ∀ v : Int32, Q (some (.int v)) (wR f o A J)) (kk : zV (zMo 45 zX7_clear) false n0 0 0 173 [(3, .int (nI a)), (0, .ref 76), (1, .int (nI s)), (2, .int (nI n))] [] (wR f o A J) Q) : ∀ (c b : Nat), b + c = a → ∀ {x4 : Int32}, x4 = nI b → zV (zMo 45 zX7_clear) false n0 0 0 149 [(4, .int x4), (3, .int (nI a)), (0, .ref 76), (1, .int (nI s)), (2, .int (nI n))] [] (wR f o A J) Q := by
  intro c
  induction c with
  | zero =>
    intro b hb x4 e4
    subst e4
    iterate 3 (refine zv_step (bX7_clear 45) rfl rfl trivial ?_)
    refine zv_ift (nI_le (by omega) (by omega)) ?_
    refine zv_locals (l := [(4, .int (nI b)), (3, .int (nI a)), (0, .ref 76), (1, .int (nI s)), (2, .int (nI n))]) (l' := [(3, .int (nI a)), (0, .ref 76), (1, .int (nI s)), (2, .int (nI n))]) ?_ kk
    simp
  | succ c ih =>
    intro b hb x4 e4
    subst e4
    iterate 3 (refine zv_step (bX7_clear 45) rfl rfl trivial ?_)
    refine zv_iff (fun h => absurd ((nI_leI (by omega) (by omega)).mp h) (by omega)) ?_
    iterate 3 (refine zv_step (bX7_clear 45) rfl rfl trivial ?_)
    refine zv_V2 (bX7_clear 45) rfl rfl rfl rfl rfl rfl rfl ⟨rfl, rfl, rfl⟩ ⟨by decide, by decide⟩ ⟨Nat.zero_le _, Nat.zero_le _⟩ (mIsSame f o A J ha (by omega) hq hp) ?_
    rintro _ _ ⟨rfl, rfl | rfl⟩
    · skip
      iterate 1 (refine zv_step (bX7_clear 45) rfl rfl trivial ?_)
      refine zv_iff (by decide) ?_
      iterate 1 (refine zv_step (bX7_clear 45) rfl rfl trivial ?_)
      exact zv_iret (bX7_clear 45) rfl (Or.inl rfl) (Nat.zero_le _) (Nat.zero_le _) (hQ _)
    · skip
      iterate 1 (refine zv_step (bX7_clear 45) rfl rfl trivial ?_)
      refine zv_ift (by decide) ?_
      iterate 2 (refine zv_step (bX7_clear 45) rfl rfl trivial ?_)
      exact ih (b + 1) (by omega) (nI_1 b)
set_option maxHeartbeats 1000000 in
set_option maxRecDepth 20000 in
theorem clrL3 (f : Nat → zC) (o : Nat → Int32) (A : Nat → Nat → Int32) (J : Nat → Nat → Int64) {s n m : Nat} (hm : m ≤ 280) (ho : o 23 = nI m) (hM : mnI m A) {n0 : Nat} {Q : Option Value → zW → Prop} (hQ : ∀ v : Int32, Q (some (.int v)) (wR f o A J)) : ∀ (c a : Nat), a + c = m → ∀ {x3 : Int32}, x3 = nI a → zV (zMo 45 zX7_clear) false n0 0 0 138 [(3, .int x3), (0, .ref 76), (1, .int (nI s)), (2, .int (nI n))] [] (wR f o A J) Q := by
  intro c
  induction c with
  | zero =>
    intro a ha x3 e3
    subst e3
    iterate 4 (refine zv_step (bX7_clear 45) rfl rfl trivial ?_)
    refine zv_ift (show o 23 ≤ nI a by rw [ho]; exact nI_le (by omega) (by omega)) ?_
    iterate 1 (refine zv_step (bX7_clear 45) rfl rfl trivial ?_)
    exact zv_iret (bX7_clear 45) rfl (Or.inl rfl) (Nat.zero_le _) (Nat.zero_le _) (hQ _)
  | succ c ih =>
    intro a ha x3 e3
    subst e3
    iterate 4 (refine zv_step (bX7_clear 45) rfl rfl trivial ?_)
    refine zv_iff (show ¬ o 23 ≤ nI a by rw [ho]; exact fun h => absurd ((nI_leI (by omega) (by omega)).mp h) (by omega)) ?_
    iterate 2 (refine zv_step (bX7_clear 45) rfl rfl trivial ?_)
    obtain ⟨q, hq, eq⟩ := hM a (by omega)
    refine zv_locals (l := [(4, .int (Int32.ofInt 0)), (3, .int (nI a)), (0, .ref 76), (1, .int (nI s)), (2, .int (nI n))]) (l' := [(4, .int (Int32.ofInt 0)), (3, .int (nI a)), (0, .ref 76), (1, .int (nI s)), (2, .int (nI n))]) (fun q h => h) (clrL4 f o A J (by omega) hq eq hQ ?_ a 0 (by omega) rfl)
    iterate 2 (refine zv_step (bX7_clear 45) rfl rfl trivial ?_)
    exact ih (a + 1) (by omega) (nI_1 a)
set_option maxHeartbeats 1000000 in
set_option maxRecDepth 20000 in
theorem clrG (f : Nat → zC) (o : Nat → Int32) (A0 : Nat → Nat → Int32) (J : Nat → Nat → Int64) {s n : Nat} (hn : n ≤ 4) {Q : Option Value → zW → Prop} {n0 : Nat} (kk : ∀ (A : Nat → Nat → Int32) (m : Nat), gI A0 (tabs (n - 1)) A m → zV (zMo 45 zX7_clear) false n0 0 0 64 [(0, .ref 76), (1, .int (nI s)), (2, .int (nI n))] [] (wR f (upd o 23 (nI m)) A J) Q) : ∀ (c j : Nat), j + 2 + c = n + 1 → ∀ {x3 : Int32} {A : Nat → Nat → Int32} {m : Nat}, x3 = nI (j + 2) → gI A0 (tabs j) A m → zV (zMo 45 zX7_clear) false n0 0 0 48 [(3, .int x3), (0, .ref 76), (1, .int (nI s)), (2, .int (nI n))] [] (wR f (upd o 23 (nI m)) A J) Q := by
  intro c
  induction c with
  | zero =>
    intro j hj x3 A m e3 hI
    subst e3
    iterate 3 (refine zv_step (bX7_clear 45) rfl rfl trivial ?_)
    refine zv_ift (show nI n < nI (j + 2) from nI_lt (by omega) (by omega)) ?_
    have e : n - 1 = j := by omega
    rw [e] at kk
    refine zv_locals (l := [(3, .int (nI (j + 2))), (0, .ref 76), (1, .int (nI s)), (2, .int (nI n))]) (l' := [(0, .ref 76), (1, .int (nI s)), (2, .int (nI n))]) ?_ (kk A m hI)
    simp
  | succ c ih =>
    intro j hj x3 A m e3 hI
    subst e3
    iterate 3 (refine zv_step (bX7_clear 45) rfl rfl trivial ?_)
    refine zv_iff (show ¬ nI n < nI (j + 2) from nI_nlt (by omega) (by omega)) ?_
    iterate 2 (refine zv_step (bX7_clear 45) rfl rfl trivial ?_)
    refine zv_V1 (bX7_clear 45) rfl rfl rfl rfl rfl rfl rfl ⟨rfl, rfl, rfl⟩ ⟨by decide, by decide⟩ ⟨Nat.zero_le _, Nat.zero_le _⟩ (mGrows f o A0 J (j + 2) (by omega) (by omega) hI (by have h1 : (tabs (j + 1)).length = _ := tabs_len (show j + 1 < 4 by omega); have h2 := lnT_le (show j + 1 < 4 by omega); show (tabs (j + 1)).length ≤ 280; omega)) ?_
    rintro _ _ ⟨rfl, A', m', rfl, hI'⟩
    iterate 2 (refine zv_step (bX7_clear 45) rfl rfl trivial ?_)
    exact ih (j + 1) (by omega) (nI_1 (j + 2)) hI'
set_option maxHeartbeats 1000000 in
set_option maxRecDepth 20000 in
theorem mClear (f : Nat → zC) (o : Nat → Int32) (A : Nat → Nat → Int32) (J : Nat → Nat → Int64) (hB : blI A) (x y : Int32) : zK 45 zX7_clear [.ref 76, .int x, .int y] (wR f o A J) (fun r w' => ∃ (o' : Nat → Int32) (A' : Nat → Nat → Int32) (R : Int32), r = some (.int R) ∧ w' = wR f o' A' J ∧ clX o A o' A') := by
  refine zK_of qX7_clear (by decide +kernel) rfl ?_
  iterate 1 (refine zv_step (bX7_clear 45) rfl rfl trivial ?_)
  refine zv_S1 (bX7_clear 45) rfl rfl rfl rfl ⟨rfl, rfl, rfl⟩ ⟨by decide, by decide⟩ ⟨Nat.zero_le _, Nat.zero_le _⟩ (hX7_isStyle _ _) ?_
  rintro _ _ ⟨rfl, ⟨g1, rfl⟩ | ⟨g1, rfl⟩⟩
  · obtain ⟨s, hs, rfl⟩ := in_nat (x := x) (b := 7) (by decide) g1
    replace hs : s < 8 := by omega
    iterate 1 (refine zv_step (bX7_clear 45) rfl rfl trivial ?_)
    refine zv_iff (by decide) ?_
    iterate 4 (refine zv_step (bX7_clear 45) rfl rfl trivial ?_)
    refine zv_S3 (bX7_clear 45) rfl rfl rfl rfl ⟨rfl, rfl, rfl⟩ ⟨by decide, by decide⟩ ⟨Nat.zero_le _, Nat.zero_le _⟩ (mIn _ _ _ _ (a := 1) (b := 4) (by decide) (by decide)) ?_
    rintro _ _ ⟨rfl, ⟨g2, rfl⟩ | ⟨g2, rfl⟩⟩
    · obtain ⟨n, hn, rfl⟩ := in_nat (x := y) (b := 4) (by decide) ⟨by omega, by omega⟩
      rw [nI_toInt (by omega)] at g2
      iterate 1 (refine zv_step (bX7_clear 45) rfl rfl trivial ?_)
      refine zv_ift (by decide) ?_
      have I0 : gI A [] A 0 := ⟨rfl, (fun a k v x y z h => by cases h), (fun a => by unfold szT; rw [List.getElem?_nil]; decide), fun _ _ => rfl, fun n h1 h2 => absurd h2 (by omega), fun _ _ _ => rfl, fun n h1 h2 => absurd h2 (by omega)⟩
      have I1 := gI_snoc (k := 0) (v := Int32.ofInt 0) (x := c8 (-2)) (y := c8 (-2)) (xi := 0) (yi := 0) (z := 1) I0 (fun h => absurd h (by decide)) (fun h => absurd h (by decide)) (by rw [rdv_m2]; decide) (by decide) (by decide) (by decide) (Or.inl ⟨by decide, rfl, rfl⟩) ⟨fun _ => ⟨0, by decide, rfl⟩, fun _ => ⟨0, by decide, rfl⟩, fun h => absurd h (by decide)⟩ (fun h => absurd h (by decide))
      have I2 := gI_snoc (k := 1) (v := Int32.ofInt 1) (x := c8 (-2)) (y := c8 (-2)) (xi := 0) (yi := 0) (z := 1) I1 (fun h => absurd h (by decide)) (fun h => absurd h (by decide)) (by rw [rdv_m2]; decide) (by decide) (by decide) (by decide) (Or.inl ⟨by decide, rfl, rfl⟩) ⟨fun _ => ⟨1, by decide, rfl⟩, fun _ => ⟨1, by decide, rfl⟩, fun h => absurd h (by decide)⟩ (fun h => rfl)
      have hj : n - 1 < 4 := by omega
      have hTl := tabs_len hj
      have hT2 := lnT_le hj
      iterate 8 (refine zv_step (bX7_clear 45) rfl rfl trivial ?_)
      refine zv_V4 (bX7_clear 45) rfl rfl rfl rfl rfl rfl rfl ⟨rfl, rfl, rfl⟩ ⟨by decide, by decide⟩ ⟨Nat.zero_le _, Nat.zero_le _⟩ (mAdds f (upd o 23 (Int32.ofInt 0)) (A) J (n := 0) rfl (by decide) vpm2 vpm2) ?_
      rintro _ _ ⟨rfl, rfl⟩
      iterate 5 (refine zv_step (bX7_clear 45) rfl rfl trivial ?_)
      refine zv_V4 (bX7_clear 45) rfl rfl rfl rfl rfl rfl rfl ⟨rfl, rfl, rfl⟩ ⟨by decide, by decide⟩ ⟨Nat.zero_le _, Nat.zero_le _⟩ (mAdds f (upd o 23 (nI 1)) (setsA A (120 + 0) (nI 0) (Int32.ofInt 0) (c8 (-2)) (c8 (-2))) J (n := 1) rfl (by decide) vpm2 vpm2) ?_
      rintro _ _ ⟨rfl, rfl⟩
      iterate 2 (refine zv_step (bX7_clear 45) rfl rfl trivial ?_)
      refine clrG f o A J hn (fun A1 m hI => ?_) (n - 1) 0 (by omega) rfl I2
      iterate 2 (refine zv_step (bX7_clear 45) rfl rfl trivial ?_)
      have hm : m = lnT (n - 1) := hI.1.trans hTl
      have hS : smI m A1 := ⟨hI.2.2.2.2.1, fun x h1 h2 => by
        have e := gI_szN hI (a := x - 120) (by rw [← hI.1]; omega)
        rw [show 120 + (x - 120) = x by omega] at e
        rw [e]
        exact tabs_sz hj _, hI.2.2.2.2.2.2, fun i => by rw [hI.2.2.2.1 6 (by decide)]; exact hB.1 i, fun i => by rw [hI.2.2.2.1 7 (by decide)]; exact hB.2 i⟩
      refine clrL1 f J (o0 := o) (A0 := A) hs (show m ≤ 280 by omega) (fun o2 A2 ho2 hS2 hM2 hc2 => ?_) m 0 (upd o 23 (nI m)) A1 (by omega) rfl hS (fun b hb => absurd hb (by omega)) ⟨fun j hj => upd_ne _ _ (by omega), fun r i a b => hI.2.2.2.2.2.1 r i a, fun r a b => hI.2.2.2.1 r a⟩ rfl
      iterate 2 (refine zv_step (bX7_clear 45) rfl rfl trivial ?_)
      refine clrL3 f o2 A2 J (by omega) ho2 hM2 (fun v => ⟨o2, A2, v, rfl, rfl, hc2⟩) m 0 (by omega) rfl
    · skip
      iterate 1 (refine zv_step (bX7_clear 45) rfl rfl trivial ?_)
      refine zv_iff (by decide) ?_
      iterate 1 (refine zv_step (bX7_clear 45) rfl rfl trivial ?_)
      exact zv_iret (bX7_clear 45) rfl (Or.inl rfl) (Nat.zero_le _) (Nat.zero_le _) ⟨o, A, _, rfl, rfl, clX_refl o A⟩
  · skip
    iterate 1 (refine zv_step (bX7_clear 45) rfl rfl trivial ?_)
    refine zv_ift (by decide) ?_
    iterate 1 (refine zv_step (bX7_clear 45) rfl rfl trivial ?_)
    exact zv_iret (bX7_clear 45) rfl (Or.inl rfl) (Nat.zero_le _) (Nat.zero_le _) ⟨o, A, _, rfl, rfl, clX_refl o A⟩
