/-- bits that are set -/
def pcL (w : Nat) : Nat → Nat
  | 0 => 0
  | k + 1 => pcL w k + (if w.testBit k = true then 1 else 0)
set_option maxRecDepth 100000 in
theorem bit_v : ∀ w, w < 256 → ∀ t, t < 8 → (nI w >>> (nI t &&& 31)) &&& Int32.ofInt 1 = nI (if w.testBit t = true then 1 else 0) := by decide +kernel
theorem kbW_cg {A A' : Nat → Nat → Int32} (e : ∀ r, r < 4 → A' r = A r) : ∀ (z : Nat) (x : Int32), kbW A' z x = kbW A z x
  | 0, _ => rfl
  | z + 1, x => by
    show (if x < 0 then 0 else (if mayN (A' 0 x.toNatClampNeg).toNatClampNeg = true then 1 else 0) + kbW A' z (A' 2 x.toNatClampNeg) + kbW A' z (A' 3 x.toNatClampNeg)) = if x < 0 then 0 else (if mayN (A 0 x.toNatClampNeg).toNatClampNeg = true then 1 else 0) + kbW A z (A 2 x.toNatClampNeg) + kbW A z (A 3 x.toNatClampNeg)
    rw [e 0 (by decide), e 2 (by decide), e 3 (by decide), kbW_cg e z, kbW_cg e z]
theorem coF_cg {A A' : Nat → Nat → Int32} (e : ∀ r, r < 4 → A' r = A r) (X Y : List Int32) (n : Nat) : coF A' X Y n = coF A X Y n := by
  unfold coF
  rw [e 0 (by decide), e 1 (by decide)]
theorem wdF_cg {A A' : Nat → Nat → Int32} {b : Nat → Bool} (e : ∀ r, r < 4 → A' r = A r) : ∀ (z : Nat) (x : Int32) (i : Nat), wdF A' b z x i = wdF A b z x i
  | 0, _, _ => rfl
  | z + 1, x, i => by
    show (if x < 0 then [] else brL (kpB b (A' 0 x.toNatClampNeg).toNatClampNeg i) (coF A' (wdF A' b z (A' 2 x.toNatClampNeg) (i1W (A' 0 x.toNatClampNeg).toNatClampNeg i)) (wdF A' b z (A' 3 x.toNatClampNeg) (i1W (A' 0 x.toNatClampNeg).toNatClampNeg i + kbW A' z (A' 2 x.toNatClampNeg))) x.toNatClampNeg)) = if x < 0 then [] else brL (kpB b (A 0 x.toNatClampNeg).toNatClampNeg i) (coF A (wdF A b z (A 2 x.toNatClampNeg) (i1W (A 0 x.toNatClampNeg).toNatClampNeg i)) (wdF A b z (A 3 x.toNatClampNeg) (i1W (A 0 x.toNatClampNeg).toNatClampNeg i + kbW A z (A 2 x.toNatClampNeg))) x.toNatClampNeg)
    rw [e 0 (by decide), e 2 (by decide), e 3 (by decide), kbW_cg e z, wdF_cg e z, wdF_cg e z, coF_cg e]
theorem kdN_cg {A A' : Nat → Nat → Int32} (e : ∀ r, r < 4 → A' r = A r) (x : Int32) : kdN A' x = kdN A x := by
  unfold kdN
  rw [e 0 (by decide)]
theorem DD_cg {A A' : Nat → Nat → Int32} {b : Nat → Bool} (e : ∀ r, r < 4 → A' r = A r) : ∀ (z : Nat) (x : Int32) (i : Nat), DD A' b z x i → DD A b z x i
  | 0, _, _, _ => trivial
  | z + 1, x, i, h => fun n k ex hn hk h0 => by
    have := h n k ex hn hk (by rw [e 0 (by decide)]; exact h0)
    rw [e 2 (by decide), e 3 (by decide), kdN_cg e, kdN_cg e, kbW_cg e z] at this
    exact ⟨this.1, this.2.1, DD_cg e z _ _ this.2.2.1, DD_cg e z _ _ this.2.2.2⟩
theorem rtW_cg {A A' : Nat → Nat → Int32} (e : ∀ r, r < 4 → A' r = A r) (e6 : A' 6 = A 6) : ∀ (z : Nat) (x : Int32), rtW A z x → rtW A' z x
  | 0, _, _ => trivial
  | z + 1, x, h => fun hx => by
    have := h hx
    unfold rtO at this ⊢
    rw [e 0 (by decide), e 1 (by decide), e 2 (by decide), e 3 (by decide), e6]
    exact ⟨this.1, rtW_cg e e6 z _ this.2.1, rtW_cg e e6 z _ this.2.2⟩
theorem lt8 (A : Nat → Nat → Int32) : (∀ k, ltW A 8 k 0 = true) ∧ (∀ k, ltW A 8 k 1 = mayN k) := ⟨fun k => by rw [ltW_8 rfl]; rfl, fun k => by rw [ltW_8 rfl]; rfl⟩
/-- one READING just where nothing leaves a doubt -/
theorem only_iff {A : Nat → Nat → Int32} {u n h : Nat} {b : Nat → Bool} {J : Nat → Nat → Int64} (hu : u ≤ 120) (hT : tbI 0 u A) (hn : n < u) (hr : rtW A 40 (nI n)) (hh : h ≤ 20) (hJ : okJ h A 8 J) (hl : (wdF A b 40 (nI n) 0).length = h) (hm : mat (eW A) 0 (wdF A b 40 (nI n) 0)) : ctW h J = 1 ↔ DD A b 40 (nI n) 0 := by
  have hL0 : ∀ i j, i < j → j ≤ h → lW J i j = csW (mG (eW A) (A 6) (ltW A 8) (lW J) i j) 20 := fun i j h1 h2 => (okS_l (hJ i j h1 h2)).1
  have hL := fun i j h1 h2 => (L_le hh hL0 (j - i) i j h1 h2 (Nat.le_refl _)).2
  have hB := fun i j h1 h2 => (L_le hh hL0 (j - i) i j h1 h2 (Nat.le_refl _)).1
  have hS := wd_SD (by omega) hT 40 n 0 0 hn (rN_sz (hT n (Nat.zero_le _) hn)).2.1 hm
  rw [Nat.zero_add, hl] at hS
  have h0 := SD_lt _ _ _ _ _ hS
  unfold ctW
  rw [if_neg (by omega)]
  constructor
  · intro h1
    rcases Classical.em (DD A b 40 (nI n) 0) with q | q
    · exact q
    · have := (SD_B hu hT hh hL hB (lt8 A).1 (lt8 A).2 40 _ 0 0 h hS (pt_of hT (Nat.zero_le _) hn) hr (Nat.le_refl _)).2.1 q
      omega
  · intro q
    exact SD_A hh hL hB (lt8 A).1 (lt8 A).2 40 _ 0 0 h hS q hr (Nat.le_refl _)
set_option maxHeartbeats 1000000 in
set_option maxRecDepth 20000 in
theorem bitLX (w : zW) {x : Nat} (hx : x < 256) {n0 : Nat} : ∀ (c k : Nat), k + c = 8 → ∀ {x2 : Int32}, x2 = nI k → zV (zMo 0 zX7_bits) false n0 0 0 4 [(2, .int x2), (1, .int (nI (pcL x k))), (0, .int (nI x))] [] w (fun r w' => w' = w ∧ r = some (.int (nI (pcL x 8)))) := by
  intro c
  induction c with
  | zero =>
    intro k hk x2 e2
    subst e2
    iterate 3 (refine zv_step (bX7_bits 0) rfl rfl trivial ?_)
    refine zv_ift (show nI 8 ≤ nI k from nI_le (by omega) (by omega)) ?_
    iterate 1 (refine zv_step (bX7_bits 0) rfl rfl trivial ?_)
    exact zv_iret (bX7_bits 0) rfl (Or.inl rfl) (Nat.zero_le _) (Nat.zero_le _) ⟨rfl, by rw [show k = 8 by omega]⟩
  | succ c ih =>
    intro k hk x2 e2
    subst e2
    iterate 3 (refine zv_step (bX7_bits 0) rfl rfl trivial ?_)
    refine zv_iff (show ¬ nI 8 ≤ nI k from fun h => absurd ((nI_leI (by omega) (by omega)).mp h) (by omega)) ?_
    iterate 10 (refine zv_step (bX7_bits 0) rfl rfl trivial ?_)
    have e9 : nI (pcL x k) + ((nI x >>> (nI k &&& 31)) &&& Int32.ofInt 1) = nI (pcL x (k + 1)) := by
      rw [bit_v x hx k (by omega), nI_add]
      rfl
    refine zv_locals (l := [(2, .int (nI k + Int32.ofInt 1)), (1, .int (nI (pcL x k) + ((nI x >>> (nI k &&& 31)) &&& Int32.ofInt 1))), (0, .int (nI x))]) (l' := [(2, .int (nI k + Int32.ofInt 1)), (1, .int (nI (pcL x k) + ((nI x >>> (nI k &&& 31)) &&& Int32.ofInt 1))), (0, .int (nI x))]) (fun q h => h) ?_
    rw [e9]
    exact ih (k + 1) (by omega) (nI_1 k)
set_option maxHeartbeats 1000000 in
set_option maxRecDepth 20000 in
theorem mBitsX (w : zW) {x : Nat} (hx : x < 256) {y : Int32} (ey : y = nI x) : zK 0 zX7_bits [.int y] w (fun r w' => w' = w ∧ r = some (.int (nI (pcL x 8)))) := by
  subst ey
  refine zK_of qX7_bits (by decide +kernel) rfl ?_
  iterate 4 (refine zv_step (bX7_bits 0) rfl rfl trivial ?_)
  exact bitLX w hx 8 0 rfl rfl
/-- a way that leaves no doubt and fits -/
def gdW (A : Nat → Nat → Int32) (n N w : Nat) : Prop := DD A (btN w N) 40 (nI n) 0 ∧ (wdF A (btN w N) 40 (nI n) 0).length ≤ 20
/-- what a row of the ear holds -/
def hasW (g : Nat → Int32) (L : List Int32) : Prop := ∀ t v, L[t]? = some v → g t = v
theorem wdF_len {u : Nat} (hu : u ≤ 450) {A : Nat → Nat → Int32} (hT : tbI 0 u A) {b : Nat → Bool} : ∀ (z n i : Nat), n < u → szN A n ≤ z → (wdF A b z (nI n) i).length ≤ 6 * szN A n
  | 0, n, i, hn, hz => by have := (rN_sz (hT n (Nat.zero_le _) hn)).1; omega
  | z + 1, n, i, hn, hz => by
    obtain ⟨k, h0, hk, hs, h40, hv⟩ := rN_val (hT n (Nat.zero_le _) hn)
    have hb : ∀ (c : Int32) (L : List Int32), (brL c L).length ≤ L.length + 2 := fun c L => by
      rw [brL_len]
      split <;> omega
    rw [wdF_nI (by omega) hk h0]
    refine Nat.le_trans (hb _ _) ?_
    rcases hs with ⟨k1, h2, h3, es⟩ | ⟨k1, k6, c, d, h2, la, hc, h3, lb, hd, es⟩ | ⟨k1, c, h2, la, hc, h3, es⟩
    · rcases (show k = 0 ∨ k = 1 by omega) with rfl | rfl
      · rw [coF_0 h0]
        show 1 + 2 ≤ _
        omega
      · rw [coF_1 h0, dgL_len]
        have := (dgN_le (A 1 n)).2
        omega
    · rw [coF_2 k1 k6 h0, h2, h3, List.length_append, List.length_cons]
      have := wdF_len hu hT (b := b) z c (i1W k i) (by omega) (by omega)
      have := wdF_len hu hT (b := b) z d (i1W k i + kbW A z (nI c)) (by omega) (by omega)
      omega
    · have q := wdF_len hu hT (b := b) z c (i1W k i) (by omega) (by omega)
      rcases (show k = 7 ∨ k = 8 ∨ k = 9 by omega) with rfl | rfl | rfl
      · rw [coF_7 h0, h2, List.length_cons]
        omega
      · rw [coF_8 h0, h2, List.length_cons, List.length_append]
        show _ + 1 + 1 + 2 ≤ _
        omega
      · rw [coF_9 h0, h2, List.length_cons, List.length_cons]
        omega
/-- words are small numbers -/
theorem nn_app {g : Nat → Int32} {L : List Int32} (h : ∀ (t : Nat) (v : Int32), L[t]? = some v → ∃ e : Nat, e ≤ 31 ∧ v = nI e) : nnW L.length (appA g 0 L) := fun i hi => by
  have := List.getElem?_eq_getElem hi
  obtain ⟨e, e1, e2⟩ := h i _ this
  refine ⟨e, e1, ?_⟩
  have q := appA_at L g 0 i this
  rw [Nat.zero_add] at q
  rw [q, e2]
def smL (L : List Int32) : Prop := ∀ v, v ∈ L → ∃ e : Nat, e ≤ 31 ∧ v = nI e
theorem smL_app {X Y : List Int32} (hx : smL X) (hy : smL Y) : smL (X ++ Y) := fun v hv => (List.mem_append.mp hv).elim (hx v) (hy v)
theorem smL_cons {x : Int32} {Y : List Int32} (hx : ∃ e : Nat, e ≤ 31 ∧ x = nI e) (hy : smL Y) : smL (x :: Y) := fun v hv => by
  rcases List.mem_cons.mp hv with e | e
  · rw [e]; exact hx
  · exact hy v e
theorem smL_nil : smL [] := fun v hv => absurd hv List.not_mem_nil
theorem smL_dg {v : Nat} (hv : v ≤ 9999) : ∀ d, d ≤ 4 → smL (dgL (nI v) d)
  | 0, _ => smL_nil
  | d + 1, hd => smL_cons (dig_w rfl hv (by omega)) (smL_dg hv d (by omega))
theorem wdF_sm {u : Nat} (hu : u ≤ 450) {A : Nat → Nat → Int32} (hT : tbI 0 u A) {b : Nat → Bool} : ∀ (z n i : Nat), n < u → szN A n ≤ z → smL (wdF A b z (nI n) i)
  | 0, n, i, hn, hz => by have := (rN_sz (hT n (Nat.zero_le _) hn)).1; omega
  | z + 1, n, i, hn, hz => by
    obtain ⟨k, h0, hk, hs, h40, hv⟩ := rN_val (hT n (Nat.zero_le _) hn)
    have c8s : ∀ c : Nat, c ≤ 31 → ∃ e : Nat, e ≤ 31 ∧ nI c = nI e := fun c hc => ⟨c, hc, rfl⟩
    have hb : ∀ (c : Int32) (L : List Int32), smL L → smL (brL c L) := fun c L h => by
      unfold brL
      split
      · exact h
      · exact smL_cons (c8s 29 (by decide)) (smL_app h (smL_cons (c8s 30 (by decide)) smL_nil))
    rw [wdF_nI (by omega) hk h0]
    refine hb _ _ ?_
    rcases hs with ⟨k1, h2, h3, es⟩ | ⟨k1, k6, c, d, h2, la, hc, h3, lb, hd, es⟩ | ⟨k1, c, h2, la, hc, h3, es⟩
    · rcases (show k = 0 ∨ k = 1 by omega) with rfl | rfl
      · rw [coF_0 h0]
        obtain ⟨v, hv9, e⟩ := hv.1 (Or.inl rfl)
        exact smL_cons ⟨v, by omega, e⟩ smL_nil
      · rw [coF_1 h0]
        obtain ⟨v, hv9, e⟩ := hv.2.1 rfl
        rw [e]
        exact smL_dg hv9 _ (dgN_le _).2
    · rw [coF_2 k1 k6 h0, h2, h3]
      exact smL_app (wdF_sm hu hT z c _ (by omega) (by omega)) (smL_cons ⟨18 + k, by omega, by rw [show c8 18 = nI 18 from rfl, nI_add]⟩ (wdF_sm hu hT z d _ (by omega) (by omega)))
    · have q := wdF_sm hu hT (b := b) z c (i1W k i) (by omega) (by omega)
      rcases (show k = 7 ∨ k = 8 ∨ k = 9 by omega) with rfl | rfl | rfl
      · rw [coF_7 h0, h2]
        exact smL_cons (c8s 25 (by decide)) q
      · rw [coF_8 h0, h2]
        exact smL_cons (c8s 26 (by decide)) (smL_app q (smL_cons (c8s 27 (by decide)) smL_nil))
      · rw [coF_9 h0, h2]
        obtain ⟨v, hv9, e⟩ := hv.1 (Or.inr rfl)
        exact smL_cons ⟨v, by omega, e⟩ (smL_cons (c8s 28 (by decide)) q)
theorem fS_e {o0 o : Nat → Int32} {A0 A : Nat → Nat → Int32} {bf : Nat} (h : fS o0 A0 bf o A) : (∀ r, r < 4 → A r = A0 r) ∧ A 6 = A0 6 ∧ A 7 = A0 7 := ⟨fun r hr => h.2.1 r (by omega) (by omega) (by omega), h.2.1 6 (by decide) (by decide) (by decide), h.2.1 7 (by decide) (by decide) (by decide)⟩
theorem kp0_r {A A' : Nat → Nat → Int32} (h : kp0 A) (e : A' 7 = A 7) : kp0 A' := fun s hs => by
  rw [e]
  exact h s hs
set_option maxHeartbeats 1000000 in
set_option maxRecDepth 20000 in
theorem mIsOnlyX (f : Nat → zC) (o : Nat → Int32) (A : Nat → Nat → Int32) (J : Nat → Nat → Int64) {o0 : Nat → Int32} {A0 : Nat → Nat → Int32} {bf u n N w : Nat} (hu : u ≤ 120) (hT0 : tbI 0 u A0) (hz0 : kp0 A0) (hn : n < u) (hr0 : rtW A0 40 (nI n)) (hw : w < 256) (hN : N ≤ 8) (hkb : kbW A0 40 (nI n) = N) (hF : fS o0 A0 bf o A) {y2 y3 : Int32} (e2 : y2 = nI w) (e3 : y3 = nI N) : zK 43 zX7_isOnly [.ref 76, .int (nI n), .int y2, .int y3] (wR f o A J) (fun r w' => ∃ (o' : Nat → Int32) (A' : Nat → Nat → Int32) (J' : Nat → Nat → Int64), w' = wR f o' A' J' ∧ fS o0 A0 bf o' A' ∧ A' 15 = A 15 ∧ ((gdW A0 n N w ∧ r = some (.int 1) ∧ o' 10 = nI (wdF A0 (btN w N) 40 (nI n) 0).length ∧ hasW (A' 8) (wdF A0 (btN w N) 40 (nI n) 0)) ∨ (¬ gdW A0 n N w ∧ r = some (.int 0)))) := by
  subst e2 e3
  have hT := fS_T hF hT0
  have hF2 := hF.2.2.2
  have he := fS_e hF
  have hz := kp0_r hz0 he.2.2
  have hrt : rtW A 40 (nI n) := rtW_cg he.1 he.2.1 40 _ hr0
  have eWS : (wdF A (btN w N) 40 (nI n) 0) = wdF A0 (btN w N) 40 (nI n) 0 := wdF_cg he.1 40 _ _
  have hln := wdF_len (by omega) hT (b := btN w N) 40 n 0 hn (rN_sz (hT n (Nat.zero_le _) hn)).2.1
  have hln2 := (rN_sz (hT n (Nat.zero_le _) hn)).2.1
  have hsm := wdF_sm (by omega) hT (b := btN w N) 40 n 0 hn (rN_sz (hT n (Nat.zero_le _) hn)).2.1
  refine zK_of qX7_isOnly (by decide +kernel) rfl ?_
  iterate 12 (refine zv_step (bX7_isOnly 43) rfl rfl trivial ?_)
  refine zv_world (show _ = wZ f (upd (upd o 19 (nI w)) 21 (nI N)) A J 0 (nI 0) (A 14) from rfl) ?_
  iterate 3 (refine zv_step (bX7_isOnly 43) rfl rfl trivial ?_)
  refine zv_V2 (bX7_isOnly 43) rfl rfl rfl rfl rfl rfl rfl ⟨rfl, rfl, rfl⟩ ⟨by decide, by decide⟩ ⟨Nat.zero_le _, Nat.zero_le _⟩ (mSayF f (upd (upd o 19 (nI w)) 21 (nI N)) A J (by omega) hT hw hN rfl rfl hz 40 n (Nat.zero_le _) hn (rN_sz (hT n (Nat.zero_le _) hn)).2.1 0 0 _ (by rw [kbW_cg he.1]; omega) (by omega)) ?_
  rintro _ _ ⟨rfl, rfl⟩
  iterate 3 (refine zv_step (bX7_isOnly 43) rfl rfl trivial ?_)
  rw [Nat.zero_add (wdF A (btN w N) 40 (nI n) 0).length]
  refine zv_world (show _ = wR f (upd (upd (upd (upd (upd o 19 (nI w)) 21 (nI N)) 20 (nI (0 + kbW A 40 (nI n)))) 18 (nI (wdF A (btN w N) 40 (nI n) 0).length)) 19 (Int32.ofInt (-1))) (updA A 14 (appA (A 14) 0 (wdF A (btN w N) 40 (nI n) 0))) J from rfl) ?_
  iterate 4 (refine zv_step (bX7_isOnly 43) rfl rfl trivial ?_)
  refine zv_ifb (fun h37 => ?_) (fun h37 => ?_)
  · have hq : (wdF A (btN w N) 40 (nI n) 0).length ≤ 20 := by
      have h9 : nI (wdF A (btN w N) 40 (nI n) 0).length ≤ nI 20 := h37
      rwa [nI_leI (by omega) (by decide)] at h9
    iterate 1 (refine zv_step (bX7_isOnly 43) rfl rfl trivial ?_)
    refine zv_V0 (bX7_isOnly 43) rfl rfl rfl rfl rfl rfl rfl ⟨rfl, rfl, rfl⟩ ⟨by decide, by decide⟩ ⟨Nat.zero_le _, Nat.zero_le _⟩ (mHearsX f (upd (upd (upd (upd (upd o 19 (nI w)) 21 (nI N)) 20 (nI (0 + kbW A 40 (nI n)))) 18 (nI (wdF A (btN w N) 40 (nI n) 0).length)) 19 (Int32.ofInt (-1))) (updA A 14 (appA (A 14) 0 (wdF A (btN w N) 40 (nI n) 0))) J (q := (wdF A (btN w N) 40 (nI n) 0).length) hq rfl) ?_
    rintro _ _ ⟨rfl, rfl⟩
    have hrow : ∀ i, i < (wdF A (btN w N) 40 (nI n) 0).length → cpR (updA A 14 (appA (A 14) 0 (wdF A (btN w N) 40 (nI n) 0)) 8) (updA A 14 (appA (A 14) 0 (wdF A (btN w N) 40 (nI n) 0)) 14) (wdF A (btN w N) 40 (nI n) 0).length i = appA (A 14) 0 (wdF A (btN w N) 40 (nI n) 0) i := fun i hi => by
      unfold cpR
      rw [if_pos hi, updA_self]
    have w9 : nnW (wdF A (btN w N) 40 (nI n) 0).length (cpR (updA A 14 (appA (A 14) 0 (wdF A (btN w N) 40 (nI n) 0)) 8) (updA A 14 (appA (A 14) 0 (wdF A (btN w N) 40 (nI n) 0)) 14) (wdF A (btN w N) 40 (nI n) 0).length) := fun i hi => by
      rw [hrow i hi]
      exact nn_app (fun t v e => hsm v (List.mem_of_getElem? e)) i hi
    iterate 2 (refine zv_step (bX7_isOnly 43) rfl rfl trivial ?_)
    refine zv_V1 (bX7_isOnly 43) rfl rfl rfl rfl rfl rfl rfl ⟨rfl, rfl, rfl⟩ ⟨by decide, by decide⟩ ⟨Nat.zero_le _, Nat.zero_le _⟩ (mCounted f (upd (upd (upd (upd (upd (upd o 19 (nI w)) 21 (nI N)) 20 (nI (0 + kbW A 40 (nI n)))) 18 (nI (wdF A (btN w N) 40 (nI n) 0).length)) 19 (Int32.ofInt (-1))) 10 (nI (wdF A (btN w N) 40 (nI n) 0).length)) (updA (updA A 14 (appA (A 14) 0 (wdF A (btN w N) 40 (nI n) 0))) 8 (cpR (updA A 14 (appA (A 14) 0 (wdF A (btN w N) 40 (nI n) 0)) 8) (updA A 14 (appA (A 14) 0 (wdF A (btN w N) 40 (nI n) 0)) 14) (wdF A (btN w N) 40 (nI n) 0).length)) J hq w9 rfl (s := 8) (by decide) rfl) ?_
    rintro _ _ ⟨J1, rfl, rfl, hJ⟩
    have hat : ∀ t v, (wdF A (btN w N) 40 (nI n) 0)[t]? = some v → (updA (updA A 14 (appA (A 14) 0 (wdF A (btN w N) 40 (nI n) 0))) 8 (cpR (updA A 14 (appA (A 14) 0 (wdF A (btN w N) 40 (nI n) 0)) 8) (updA A 14 (appA (A 14) 0 (wdF A (btN w N) 40 (nI n) 0)) 14) (wdF A (btN w N) 40 (nI n) 0).length)) 8 t = v := fun t v e => by
      have ht : t < (wdF A (btN w N) 40 (nI n) 0).length := (List.getElem?_eq_some_iff.mp e).1
      rw [updA_self, hrow t ht]
      have := appA_at (wdF A (btN w N) 40 (nI n) 0) (A 14) 0 t e
      rwa [Nat.zero_add] at this
    have r4 : ∀ r, r < 4 → (updA (updA A 14 (appA (A 14) 0 (wdF A (btN w N) 40 (nI n) 0))) 8 (cpR (updA A 14 (appA (A 14) 0 (wdF A (btN w N) 40 (nI n) 0)) 8) (updA A 14 (appA (A 14) 0 (wdF A (btN w N) 40 (nI n) 0)) 14) (wdF A (btN w N) 40 (nI n) 0).length)) r = A r := fun r hr => by rw [updA_ne _ _ (by omega), updA_ne _ _ (by omega)]
    have hiff : ctW (wdF A (btN w N) 40 (nI n) 0).length J1 = 1 ↔ DD A (btN w N) 40 (nI n) 0 := by
      have q := only_iff (A := (updA (updA A 14 (appA (A 14) 0 (wdF A (btN w N) 40 (nI n) 0))) 8 (cpR (updA A 14 (appA (A 14) 0 (wdF A (btN w N) 40 (nI n) 0)) 8) (updA A 14 (appA (A 14) 0 (wdF A (btN w N) 40 (nI n) 0)) 14) (wdF A (btN w N) 40 (nI n) 0).length))) (b := btN w N) (n := n) hu (tbI_fr hT (fun r hr i _ _ => by rw [updA_ne _ _ (by omega), updA_ne _ _ (by omega)])) hn (rtW_cg r4 (by rw [updA_ne _ _ (by decide), updA_ne _ _ (by decide)]) 40 _ hrt) hq hJ (by rw [wdF_cg r4]) (by
        rw [wdF_cg r4]
        intro t v e
        have ht : t < (wdF A (btN w N) 40 (nI n) 0).length := (List.getElem?_eq_some_iff.mp e).1
        have e8 := eW_of (A := (updA (updA A 14 (appA (A 14) 0 (wdF A (btN w N) 40 (nI n) 0))) 8 (cpR (updA A 14 (appA (A 14) 0 (wdF A (btN w N) 40 (nI n) 0)) 8) (updA A 14 (appA (A 14) 0 (wdF A (btN w N) 40 (nI n) 0)) 14) (wdF A (btN w N) 40 (nI n) 0).length))) (h := (wdF A (btN w N) 40 (nI n) 0).length) (by rw [updA_self]; exact w9) ht
        rw [Nat.zero_add]
        exact ⟨(hat t v e).symm.trans e8.1, e8.2⟩)
      exact q.trans ⟨DD_cg r4 40 _ _, DD_cg (fun r hr => (r4 r hr).symm) 40 _ _⟩
    have hhas : hasW ((updA (updA A 14 (appA (A 14) 0 (wdF A (btN w N) 40 (nI n) 0))) 8 (cpR (updA A 14 (appA (A 14) 0 (wdF A (btN w N) 40 (nI n) 0)) 8) (updA A 14 (appA (A 14) 0 (wdF A (btN w N) 40 (nI n) 0)) 14) (wdF A (btN w N) 40 (nI n) 0).length)) 8) (wdF A0 (btN w N) 40 (nI n) 0) := by
      rw [← eWS]
      exact hat
    iterate 3 (refine zv_step (bX7_isOnly 43) rfl rfl trivial ?_)
    refine zv_ifb (fun h54 => ?_) (fun h54 => ?_)
    · have q54 : ¬ ctW (wdF A (btN w N) 40 (nI n) 0).length J1 = 1 := fun e => h54 ((lg_cmp_eq _ _).mpr (by rw [e]; rfl))
      iterate 1 (refine zv_step (bX7_isOnly 43) rfl rfl trivial ?_)
      exact zv_iret (bX7_isOnly 43) rfl (Or.inr ⟨rfl, Or.inl rfl⟩) (Nat.zero_le _) (Nat.zero_le _) ⟨_, _, J1, rfl, ⟨fun j a b c => by rw [upd_ne _ _ c, upd_ne _ _ a, upd_ne _ _ (by omega), upd_ne _ _ (by omega), upd_ne _ _ (by omega), upd_ne _ _ (by omega), upd_ne _ _ (by omega)]; exact hF.1 j a b c, fun r a b c => (updA_ne _ _ a).trans ((updA_ne _ _ b).trans (hF.2.1 r a b c)), by rw [updA_ne _ _ (by decide), updA_ne _ _ (by decide)]; exact hF.2.2.1, _, hq, rfl, by rw [updA_self]; exact w9⟩, by rw [updA_ne _ _ (by decide), updA_ne _ _ (by decide)], Or.inr ⟨fun q => q54 (hiff.mpr (DD_cg (fun r hr => (he.1 r hr).symm) 40 _ _ q.1)), rfl⟩⟩
    · have q54 : ctW (wdF A (btN w N) 40 (nI n) 0).length J1 = 1 := by
        have h9 : lN (ctW (wdF A (btN w N) 40 (nI n) 0).length J1) = lN 1 := (lg_cmp_eq _ _).mp (Decidable.not_not.mp h54)
        rwa [lN_eqJ (by have := ctW_le hJ; unfold cap at this; omega) (by decide)] at h9
      iterate 2 (refine zv_step (bX7_isOnly 43) rfl rfl trivial ?_)
      exact zv_iret (bX7_isOnly 43) rfl (Or.inr ⟨rfl, Or.inr rfl⟩) (Nat.zero_le _) (Nat.zero_le _) ⟨_, _, J1, rfl, ⟨fun j a b c => by rw [upd_ne _ _ c, upd_ne _ _ a, upd_ne _ _ (by omega), upd_ne _ _ (by omega), upd_ne _ _ (by omega), upd_ne _ _ (by omega), upd_ne _ _ (by omega)]; exact hF.1 j a b c, fun r a b c => (updA_ne _ _ a).trans ((updA_ne _ _ b).trans (hF.2.1 r a b c)), by rw [updA_ne _ _ (by decide), updA_ne _ _ (by decide)]; exact hF.2.2.1, _, hq, rfl, by rw [updA_self]; exact w9⟩, by rw [updA_ne _ _ (by decide), updA_ne _ _ (by decide)], Or.inl ⟨⟨DD_cg he.1 40 _ _ (hiff.mp q54), by rw [← eWS]; exact hq⟩, rfl, by rw [← eWS]; rfl, hhas⟩⟩
  · have hq : ¬ (wdF A (btN w N) 40 (nI n) 0).length ≤ 20 := fun q => h37 (show nI (wdF A (btN w N) 40 (nI n) 0).length ≤ nI 20 by rw [nI_leI (by omega) (by decide)]; exact q)
    iterate 1 (refine zv_step (bX7_isOnly 43) rfl rfl trivial ?_)
    exact zv_iret (bX7_isOnly 43) rfl (Or.inr ⟨rfl, Or.inl rfl⟩) (Nat.zero_le _) (Nat.zero_le _) ⟨_, _, J, rfl, ⟨fun j a b c => by rw [upd_ne _ _ (by omega), upd_ne _ _ (by omega), upd_ne _ _ (by omega), upd_ne _ _ (by omega), upd_ne _ _ (by omega)]; exact hF.1 j a b c, fun r a b c => (updA_ne _ _ b).trans (hF.2.1 r a b c), by rw [updA_ne _ _ (by decide)]; exact hF.2.2.1, hF2⟩, by rw [updA_ne _ _ (by decide)], Or.inr ⟨fun q => hq (by rw [eWS]; exact q.2), rfl⟩⟩
