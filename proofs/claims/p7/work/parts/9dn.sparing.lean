/-! the bits of those PARTS that would leave a doubt -/
def dbB (k p : Nat) (f : Bool) : Bool := decide (((2 ≤ p ∧ p ≤ 6) ∧ ((2 ≤ k ∧ k ≤ 6) ∨ (k = 7 ∨ k = 9))) ∨ (f = true ∧ (p = 7 ∨ p = 9) ∧ (2 ≤ k ∧ k ≤ 6)))
theorem dbB_i {k p : Nat} {f : Bool} : dbB k p f = true ↔ dbN k p (f = true) := by
  unfold dbB dbN prN pxN
  rw [decide_eq_true_eq]
theorem dbN_c {k p : Nat} {f g : Prop} (h : f ↔ g) : dbN k p f ↔ dbN k p g := by
  unfold dbN
  rw [h]
theorem dbN_may {k p : Nat} {f : Prop} (h : dbN k p f) : mayN p = true := may_i (h.elim (fun q => Or.inl q.1) (fun q => Or.inr q.2.1))
def dbF (A : Nat → Nat → Int32) : Nat → Int32 → Bool → List Bool
  | 0, _, _ => []
  | z + 1, x, t => if x < 0 then [] else (if mayN (kdN A x) = true then [t] else []) ++ (dbF A z (A 2 x.toNatClampNeg) (dbB (kdN A x) (kdN A (A 2 x.toNatClampNeg)) true) ++ dbF A z (A 3 x.toNatClampNeg) (dbB (kdN A x) (kdN A (A 3 x.toNatClampNeg)) false))
theorem dbF_nI {A : Nat → Nat → Int32} {z n k : Nat} {t : Bool} (hn : n < 450) (hk : k < 10) (h0 : A 0 n = nI k) : dbF A (z + 1) (nI n) t = (if mayN k = true then [t] else []) ++ (dbF A z (A 2 n) (dbB k (kdN A (A 2 n)) true) ++ dbF A z (A 3 n) (dbB k (kdN A (A 3 n)) false)) := by
  show (if nI n < 0 then [] else (if mayN (kdN A (nI n)) = true then [t] else []) ++ (dbF A z (A 2 (nI n).toNatClampNeg) (dbB (kdN A (nI n)) (kdN A (A 2 (nI n).toNatClampNeg)) true) ++ dbF A z (A 3 (nI n).toNatClampNeg) (dbB (kdN A (nI n)) (kdN A (A 3 (nI n).toNatClampNeg)) false))) = _
  rw [if_neg (nI_pos (by omega)), nI_clamp (by omega), kdN_n hn hk h0]
theorem dbF_m2 (A : Nat → Nat → Int32) (z : Nat) (t : Bool) : dbF A z m2 t = [] := by
  cases z with
  | zero => rfl
  | succ z => exact if_pos (by decide)
theorem dbF_len {u : Nat} (hu : u ≤ 450) {A : Nat → Nat → Int32} (hT : tbI 0 u A) : ∀ (z : Nat) (x : Int32) (t : Bool), pt 0 u A z x → (dbF A z x t).length = kbW A z x
  | 0, x, t, _ => rfl
  | z + 1, x, t, h => by
    rcases h with rfl | ⟨n, rfl, hlo, hn, hz⟩
    · rw [dbF_m2, kbW_m2]
      rfl
    · obtain ⟨p2, p3⟩ := rN_parts hT hlo hn hz
      obtain ⟨k, hk, h0⟩ := rN_kd (hT n hlo hn)
      rw [dbF_nI (by omega) hk h0, kbW_nI (by omega) hk h0, List.length_append, List.length_append, dbF_len hu hT z _ _ p2, dbF_len hu hT z _ _ p3]
      split
      · show 1 + _ = _
        omega
      · show 0 + _ = _
        omega
/-- just the PARTS that would leave a doubt are KEPT -/
def DX (A : Nat → Nat → Int32) (b : Nat → Bool) : Nat → Int32 → Nat → Prop
  | 0, _, _ => True
  | z + 1, x, i => ∀ n k, x = nI n → n < 450 → k < 10 → A 0 n = nI k → (mayN (kdN A (A 2 n)) = true → (b (i1W k i) = true ↔ dbN k (kdN A (A 2 n)) True)) ∧ (mayN (kdN A (A 3 n)) = true → (b (i1W k i + kbW A z (A 2 n)) = true ↔ dbN k (kdN A (A 3 n)) False)) ∧ DX A b z (A 2 n) (i1W k i) ∧ DX A b z (A 3 n) (i1W k i + kbW A z (A 2 n))
theorem DX_DD {A : Nat → Nat → Int32} {b : Nat → Bool} : ∀ (z : Nat) (x : Int32) (i : Nat), DX A b z x i → DD A b z x i
  | 0, _, _, _ => trivial
  | z + 1, x, i, h => fun n k ex hn hk h0 => by
    obtain ⟨h1, h2, h3, h4⟩ := h n k ex hn hk h0
    exact ⟨fun d => (h1 (dbN_may d)).mpr d, fun d => (h2 (dbN_may d)).mpr d, DX_DD z _ _ h3, DX_DD z _ _ h4⟩
theorem getD_app {X Y : List Bool} {j : Nat} : (X ++ Y).getD j false = if j < X.length then X.getD j false else Y.getD (j - X.length) false := by
  rw [List.getD_eq_getElem?_getD, List.getD_eq_getElem?_getD, List.getD_eq_getElem?_getD, List.getElem?_append]
  split <;> rfl
theorem DX_of {u : Nat} (hu : u ≤ 450) {A : Nat → Nat → Int32} (hT : tbI 0 u A) {b : Nat → Bool} : ∀ (z : Nat) (x : Int32) (i : Nat) (t : Bool), pt 0 u A z x → (∀ j, j < kbW A z x → b (i + j) = (dbF A z x t).getD j false) → DX A b z x i ∧ (mayN (kdN A x) = true → z ≠ 0 → b i = t)
  | 0, x, i, t, h, hb => ⟨trivial, fun _ q => absurd rfl q⟩
  | z + 1, x, i, t, h, hb => by
    rcases h with rfl | ⟨n, rfl, hlo, hn, hz⟩
    · refine ⟨fun n k ex hn' => absurd ex (m2_nI hn'), fun q => absurd q ?_⟩
      rw [show kdN A m2 = 10 from if_pos (by decide)]
      decide
    · obtain ⟨p2, p3⟩ := rN_parts hT hlo hn hz
      obtain ⟨k, hk, h0⟩ := rN_kd (hT n hlo hn)
      have lx := dbF_len hu hT z (A 2 n) (dbB k (kdN A (A 2 n)) true) p2
      rw [kbW_nI (by omega) hk h0, dbF_nI (by omega) hk h0] at hb
      have hd : ∀ j, (if mayN k = true then 1 else 0) ≤ j → j < (if mayN k = true then 1 else 0) + kbW A z (A 2 n) + kbW A z (A 3 n) → b (i + j) = (dbF A z (A 2 n) (dbB k (kdN A (A 2 n)) true) ++ dbF A z (A 3 n) (dbB k (kdN A (A 3 n)) false)).getD (j - (if mayN k = true then 1 else 0)) false := fun j h1 h2 => by
        rw [hb j h2, getD_app]
        by_cases q : mayN k = true
        · simp only [if_pos q] at h1 ⊢
          rw [if_neg (by show ¬ j < 1; omega)]
          rfl
        · simp only [if_neg q] at h1 ⊢
          rw [if_neg (by show ¬ j < 0; omega)]
          rfl
      have hx : ∀ j, j < kbW A z (A 2 n) → b (i1W k i + j) = (dbF A z (A 2 n) (dbB k (kdN A (A 2 n)) true)).getD j false := fun j hj => by
        have := hd ((if mayN k = true then 1 else 0) + j) (by omega) (by omega)
        rw [show (if mayN k = true then 1 else 0) + j - (if mayN k = true then 1 else 0) = j by omega, getD_app, lx, if_pos hj] at this
        rw [← this]
        unfold i1W
        rw [Nat.add_assoc]
      have hy : ∀ j, j < kbW A z (A 3 n) → b (i1W k i + kbW A z (A 2 n) + j) = (dbF A z (A 3 n) (dbB k (kdN A (A 3 n)) false)).getD j false := fun j hj => by
        have := hd ((if mayN k = true then 1 else 0) + (kbW A z (A 2 n) + j)) (by omega) (by omega)
        rw [show (if mayN k = true then 1 else 0) + (kbW A z (A 2 n) + j) - (if mayN k = true then 1 else 0) = kbW A z (A 2 n) + j by omega, getD_app, lx, if_neg (show ¬ kbW A z (A 2 n) + j < kbW A z (A 2 n) by omega), show kbW A z (A 2 n) + j - kbW A z (A 2 n) = j by omega] at this
        rw [← this]
        unfold i1W
        congr 1
        omega
      obtain ⟨x1, x2⟩ := DX_of hu hT z (A 2 n) (i1W k i) _ p2 hx
      obtain ⟨y1, y2⟩ := DX_of hu hT z (A 3 n) (i1W k i + kbW A z (A 2 n)) _ p3 hy
      have zne : ∀ y, pt 0 u A z y → mayN (kdN A y) = true → z ≠ 0 := fun y hy hm hz0 => by
        subst hz0
        rw [← pt_zero hT hy, show kdN A m2 = 10 from if_pos (by decide)] at hm
        exact absurd hm (by decide)
      refine ⟨fun n' k' ex hn' hk' h0' => ?_, fun q _ => ?_⟩
      · have e1 : n = n' := (nI_eq (by omega) (by omega)).mp ex
        subst e1
        have e2 : k = k' := (nI_eq (by omega) (by omega)).mp (h0.symm.trans h0')
        subst e2
        refine ⟨fun m => ?_, fun m => ?_, x1, y1⟩
        · rw [x2 m (zne _ p2 m), dbB_i]
          exact dbN_c ⟨fun _ => trivial, fun _ => rfl⟩
        · rw [y2 m (zne _ p3 m), dbB_i]
          exact dbN_c ⟨fun q => absurd q (by decide), fun q => q.elim⟩
      · rw [kdN_n (by omega) hk h0] at q
        have := hb 0 (by rw [if_pos q]; omega)
        rw [getD_app, if_pos q] at this
        exact this
theorem dbW_i {k p : Nat} (hk : k < 10) (hp : p < 10) (fi : Bool) : dbW (nI k) (nI p) (if fi = true then Int32.ofInt 1 else Int32.ofInt 0) = 0 ↔ ¬ dbN k p (fi = true) := by
  unfold dbW dbN prN pxN
  rw [nI_toInt (by omega), nI_toInt (by omega)]
  have e1 : (2 ≤ (p : Int) ∧ (p : Int) ≤ 6) ↔ (2 ≤ p ∧ p ≤ 6) := by omega
  have e2 : (2 ≤ (k : Int) ∧ (k : Int) ≤ 6) ↔ (2 ≤ k ∧ k ≤ 6) := by omega
  have e3 : ((k : Int) = 7 ∨ (k : Int) = 9) ↔ (k = 7 ∨ k = 9) := by omega
  have e4 : ((p : Int) = 7 ∨ (p : Int) = 9) ↔ (p = 7 ∨ p = 9) := by omega
  have e5 : (¬ (if fi = true then Int32.ofInt 1 else Int32.ofInt 0) = 0) ↔ fi = true := by cases fi <;> decide
  simp only [e1, e2, e3, e4, e5]
  have n1 : ¬ Int32.ofInt 1 = 0 := by decide
  have n0 : Int32.ofInt 0 = 0 := by decide
  by_cases a : 2 ≤ p ∧ p ≤ 6
  · rw [if_pos a]
    by_cases c : (2 ≤ k ∧ k ≤ 6) ∨ (k = 7 ∨ k = 9)
    · rw [if_pos c]
      exact ⟨fun q => absurd q n1, fun q => absurd (Or.inl ⟨a, c⟩) q⟩
    · rw [if_neg c]
      exact ⟨fun _ q => q.elim (fun w => c w.2) (fun w => by omega), fun _ => n0⟩
  · rw [if_neg a]
    by_cases c : fi = true ∧ (p = 7 ∨ p = 9) ∧ (2 ≤ k ∧ k ≤ 6)
    · rw [if_pos c]
      exact ⟨fun q => absurd q n1, fun q => absurd (Or.inr c) q⟩
    · rw [if_neg c]
      exact ⟨fun _ q => q.elim (fun w => a w.1) c, fun _ => n0⟩
set_option maxHeartbeats 1000000 in
/-- what the class says sparingly -/
theorem tl_sp {u : Nat} (hu : u ≤ 120) {P A : Nat → Nat → Int32} (hT : tbI 0 u A) (hN : NR u P A) {kk : Int32} {b : Nat → Bool} : ∀ (z : Nat) (x : Int32) (i : Nat), pt 0 u A z x → DX A b z x i → ∀ kept : Int32, (kept = 0 ↔ ¬ (mayN (kdN A x) = true ∧ b i = true)) → tlW (nI u) kk (Int32.ofInt 1) P (z + 1) (cvI x) kept = wdF A b z x i
  | 0, x, i, h, _, kept, _ => by
    obtain rfl := pt_zero hT h
    rw [cvI_m2]
    rfl
  | z + 1, x, i, h, hD, kept, hkp => by
    rcases h with rfl | ⟨n, rfl, hlo, hn, hz⟩
    · rw [cvI_m2, wdF_m2, tlW_s, if_neg (fun q => absurd q.1 (by decide))]
    · obtain ⟨p2, p3⟩ := rN_parts hT hlo hn hz
      obtain ⟨k, h0, hk9, hs, h40, hv⟩ := rN_val (hT n hlo hn)
      obtain ⟨n1, n2, n3, n4, n5, n6, n7, n8⟩ := hN n hn
      obtain ⟨d1, d2, d3, d4⟩ := hD n k rfl (by omega) hk9 h0
      have pk : ∀ (y : Int32) (j : Nat) (fi : Bool), pt 0 u A z y → (mayN (kdN A y) = true → (b j = true ↔ dbN k (kdN A y) (fi = true))) → (pkW (nI u) kk (Int32.ofInt 1) P (nI k) (cvI y) (if fi = true then Int32.ofInt 1 else Int32.ofInt 0) = 0 ↔ ¬ (mayN (kdN A y) = true ∧ b j = true)) := fun y j fi hy hb => by
        rcases hy with rfl | ⟨m, rfl, _, hm, _⟩
        · rw [cvI_m2]
          unfold pkW
          rw [if_neg (fun q => absurd q.1 (by decide)), show kdN A m2 = 10 from if_pos (by decide)]
          exact ⟨fun _ q => absurd q.1 (by decide), fun _ => rfl⟩
        · obtain ⟨p, hp, hp0⟩ := rN_kd (hT m (Nat.zero_le _) hm)
          rw [cvI_nI (by omega), kdN_n (by omega) hp hp0] at *
          unfold pkW
          rw [if_pos (has_n hm hu), if_neg (show ¬ Int32.ofInt 1 = 0 by decide), show nC (nI m) = m from nI_clamp (by omega), (hN m hm).1, hp0, dbW_i hk9 hp]
          constructor
          · exact fun q w => q ((hb w.1).mp w.2)
          · exact fun q w => q ⟨dbN_may w, (hb (dbN_may w)).mpr w⟩
      have tT : (True ↔ (true = true)) := ⟨fun _ => rfl, fun _ => trivial⟩
      have tF : (False ↔ (false = true)) := ⟨fun q => q.elim, fun q => absurd q (by decide)⟩
      have ihx : tlW (nI u) kk (Int32.ofInt 1) P (z + 1) (cvI (A 2 n)) (pkW (nI u) kk (Int32.ofInt 1) P (nI k) (cvI (A 2 n)) (Int32.ofInt 1)) = wdF A b z (A 2 n) (i1W k i) := tl_sp hu hT hN z _ _ p2 d3 _ (pk _ _ true p2 (fun m => (d1 m).trans (dbN_c tT)))
      have ihy : tlW (nI u) kk (Int32.ofInt 1) P (z + 1) (cvI (A 3 n)) (pkW (nI u) kk (Int32.ofInt 1) P (nI k) (cvI (A 3 n)) (Int32.ofInt 0)) = wdF A b z (A 3 n) (i1W k i + kbW A z (A 2 n)) := tl_sp hu hT hN z _ _ p3 d4 _ (pk _ _ false p3 (fun m => (d2 m).trans (dbN_c tF)))
      have eco : coW P (pkW (nI u) kk (Int32.ofInt 1) P) (tlW (nI u) kk (Int32.ofInt 1) P (z + 1)) n = coF A (wdF A b z (A 2 n) (i1W k i)) (wdF A b z (A 3 n) (i1W k i + kbW A z (A 2 n))) n := by
        unfold coW coF
        rw [n1, n3, n4, h0]
        have nk : ∀ j, j < 10 → (nI k = nI j ↔ k = j) := fun j hj => nI_eq (by omega) (by omega)
        by_cases e0 : k = 0
        · subst e0
          obtain ⟨v, hv9, e⟩ := hv.1 (Or.inl rfl)
          rw [if_pos rfl, if_pos rfl, n2, e, cvI_nI (by omega)]
        · rw [if_neg (fun q => e0 ((nk 0 (by decide)).mp q)), if_neg (fun q => e0 ((nk 0 (by decide)).mp q))]
          by_cases e1 : k = 1
          · subst e1
            obtain ⟨v, hv9, e⟩ := hv.2.1 rfl
            rw [if_pos rfl, if_pos rfl, n2, e, cvI_nI (by omega)]
            exact dg_WL _
          · rw [if_neg (fun q => e1 ((nk 1 (by decide)).mp q)), if_neg (fun q => e1 ((nk 1 (by decide)).mp q))]
            by_cases e7 : k = 7
            · subst e7
              rw [if_pos rfl, if_pos rfl, ihx]
            · rw [if_neg (fun q => e7 ((nk 7 (by decide)).mp q)), if_neg (fun q => e7 ((nk 7 (by decide)).mp q))]
              by_cases e8 : k = 8
              · subst e8
                rw [if_pos rfl, if_pos rfl, ihx]
              · rw [if_neg (fun q => e8 ((nk 8 (by decide)).mp q)), if_neg (fun q => e8 ((nk 8 (by decide)).mp q))]
                by_cases e9 : k = 9
                · subst e9
                  obtain ⟨v, hv9, e⟩ := hv.1 (Or.inr rfl)
                  rw [if_pos rfl, if_pos rfl, n2, e, cvI_nI (by omega), ihx]
                · rw [if_neg (fun q => e9 ((nk 9 (by decide)).mp q)), if_neg (fun q => e9 ((nk 9 (by decide)).mp q)), ihx, ihy]
      rw [kdN_n (by omega) hk9 h0] at hkp
      rw [cvI_nI (by omega), tlW_s, if_pos (has_n hn hu), show nC (nI n) = n from nI_clamp (by omega), eco, wdF_nI (by omega) hk9 h0]
      unfold brL kpB
      by_cases q : mayN k = true ∧ b i = true
      · rw [if_neg (fun w => (hkp.mp w) q), if_pos q, if_neg (by decide)]
      · rw [if_pos (hkp.mpr q), if_neg q, if_pos rfl]
/-- bits as a number -/
theorem bits_w : ∀ (L : List Bool), ∃ w, w < 2 ^ L.length ∧ ∀ i, i < L.length → btN w L.length i = L.getD i false
  | [] => ⟨0, by decide, fun i h => absurd h (Nat.not_lt_zero _)⟩
  | x :: L => by
    obtain ⟨w, hw, hb⟩ := bits_w L
    have hp : 2 ^ (L.length + 1) = 2 ^ L.length + 2 ^ L.length := by rw [Nat.pow_succ]; omega
    refine ⟨if x = true then 2 ^ L.length + w else w, ?_, fun i hi => ?_⟩
    · rw [List.length_cons]
      split <;> omega
    · rw [List.length_cons] at hi ⊢
      unfold btN at hb ⊢
      cases i with
      | zero =>
        show Nat.testBit _ (L.length + 1 - 1) = x
        rw [Nat.add_sub_cancel]
        cases x with
        | true => rw [if_pos rfl, Nat.testBit_two_pow_add_eq, Nat.testBit_lt_two_pow hw]; rfl
        | false => rw [if_neg (by decide), Nat.testBit_lt_two_pow hw]
      | succ i =>
        show Nat.testBit _ (L.length + 1 - (i + 1 + 1)) = L.getD i false
        rw [show L.length + 1 - (i + 1 + 1) = L.length - (i + 1) by omega, ← hb i (by omega)]
        cases x with
        | true => rw [if_pos rfl, Nat.testBit_two_pow_add_gt (by omega)]
        | false => rw [if_neg (by decide)]
/-- a way that leaves no doubt keeps all these PARTS -/
theorem DX_sub {u : Nat} (hu : u ≤ 450) {A : Nat → Nat → Int32} (hT : tbI 0 u A) {b b' : Nat → Bool} : ∀ (z : Nat) (x : Int32) (i : Nat), pt 0 u A z x → DX A b z x i → DD A b' z x i → (mayN (kdN A x) = true → b i = true → b' i = true) → ∀ j, j < kbW A z x → b (i + j) = true → b' (i + j) = true
  | 0, x, i, _, _, _, _, j, hj, _ => absurd hj (Nat.not_lt_zero _)
  | z + 1, x, i, h, hX, hD, ht, j, hj, hb => by
    rcases h with rfl | ⟨n, rfl, hlo, hn, hz⟩
    · rw [kbW_m2] at hj
      omega
    · obtain ⟨p2, p3⟩ := rN_parts hT hlo hn hz
      obtain ⟨k, hk, h0⟩ := rN_kd (hT n hlo hn)
      obtain ⟨x1, x2, x3, x4⟩ := hX n k rfl (by omega) hk h0
      obtain ⟨d1, d2, d3, d4⟩ := hD n k rfl (by omega) hk h0
      rw [kbW_nI (by omega) hk h0] at hj
      rw [kdN_n (by omega) hk h0] at ht
      have ei : (i + if mayN k = true then 1 else 0) = i1W k i := rfl
      rw [ei] at d1 d2 d3 d4
      rcases Nat.lt_or_ge j (if mayN k = true then 1 else 0) with q | q
      · by_cases m : mayN k = true
        · rw [if_pos m] at q
          have : j = 0 := by omega
          subst this
          exact ht m hb
        · rw [if_neg m] at q
          omega
      · rcases Nat.lt_or_ge (j - (if mayN k = true then 1 else 0)) (kbW A z (A 2 n)) with w | w
        · have e : i + j = i1W k i + (j - (if mayN k = true then 1 else 0)) := by unfold i1W; omega
          rw [e] at hb ⊢
          exact DX_sub hu hT z _ _ p2 x3 d3 (fun m bb => d1 ((x1 m).mp bb)) _ w hb
        · have e : i + j = i1W k i + kbW A z (A 2 n) + (j - (if mayN k = true then 1 else 0) - kbW A z (A 2 n)) := by unfold i1W; omega
          rw [e] at hb ⊢
          exact DX_sub hu hT z _ _ p3 x4 d4 (fun m bb => d2 ((x2 m).mp bb)) _ (by omega) hb
theorem wdF_mono {u : Nat} (hu : u ≤ 450) {A : Nat → Nat → Int32} (hT : tbI 0 u A) {b b' : Nat → Bool} : ∀ (z : Nat) (x : Int32) (i : Nat), pt 0 u A z x → (∀ j, j < kbW A z x → b (i + j) = true → b' (i + j) = true) → (wdF A b z x i).length ≤ (wdF A b' z x i).length
  | 0, x, i, _, _ => Nat.le_refl _
  | z + 1, x, i, h, hb => by
    rcases h with rfl | ⟨n, rfl, hlo, hn, hz⟩
    · rw [wdF_m2, wdF_m2]
      exact Nat.le_refl _
    · obtain ⟨p2, p3⟩ := rN_parts hT hlo hn hz
      obtain ⟨k, h0, hk, hs, h40, hv⟩ := rN_val (hT n hlo hn)
      rw [kbW_nI (by omega) hk h0] at hb
      have ix := wdF_mono hu hT (b := b) (b' := b') z (A 2 n) (i1W k i) p2 (fun j hj q => by
        have e : i1W k i + j = i + ((if mayN k = true then 1 else 0) + j) := by unfold i1W; omega
        rw [e] at q ⊢
        exact hb _ (by omega) q)
      have iy := wdF_mono hu hT (b := b) (b' := b') z (A 3 n) (i1W k i + kbW A z (A 2 n)) p3 (fun j hj q => by
        have e : i1W k i + kbW A z (A 2 n) + j = i + ((if mayN k = true then 1 else 0) + kbW A z (A 2 n) + j) := by unfold i1W; omega
        rw [e] at q ⊢
        exact hb _ (by omega) q)
      rw [wdF_nI (by omega) hk h0, wdF_nI (by omega) hk h0, brL_len, brL_len]
      have ik : (if kpB b k i = 0 then 0 else 2) ≤ (if kpB b' k i = 0 then 0 else 2) := by
        unfold kpB
        by_cases q : mayN k = true ∧ b i = true
        · have := hb 0 (by rw [if_pos q.1]; omega) q.2
          rw [if_pos q, if_pos (show mayN k = true ∧ b' i = true from ⟨q.1, this⟩)]
          exact Nat.le_refl _
        · rw [if_neg q, if_pos rfl]
          exact Nat.zero_le _
      have ic : (coF A (wdF A b z (A 2 n) (i1W k i)) (wdF A b z (A 3 n) (i1W k i + kbW A z (A 2 n))) n).length ≤ (coF A (wdF A b' z (A 2 n) (i1W k i)) (wdF A b' z (A 3 n) (i1W k i + kbW A z (A 2 n))) n).length := by
        rcases (show k = 0 ∨ k = 1 ∨ (2 ≤ k ∧ k ≤ 6) ∨ k = 7 ∨ k = 8 ∨ k = 9 by omega) with rfl | rfl | ⟨k2, k6⟩ | rfl | rfl | rfl
        · rw [coF_0 h0, coF_0 h0]; exact Nat.le_refl _
        · rw [coF_1 h0, coF_1 h0]; exact Nat.le_refl _
        · rw [coF_2 k2 k6 h0, coF_2 k2 k6 h0, List.length_append, List.length_append, List.length_cons, List.length_cons]; omega
        · rw [coF_7 h0, coF_7 h0, List.length_cons, List.length_cons]; omega
        · rw [coF_8 h0, coF_8 h0, List.length_cons, List.length_cons, List.length_append, List.length_append]; omega
        · rw [coF_9 h0, coF_9 h0, List.length_cons, List.length_cons, List.length_cons, List.length_cons]; omega
      omega
theorem pcL_sub {w w' : Nat} : ∀ k, (∀ t, t < k → w.testBit t = true → w'.testBit t = true) → pcL w k ≤ pcL w' k ∧ (pcL w' k ≤ pcL w k → ∀ t, t < k → w.testBit t = w'.testBit t)
  | 0, _ => ⟨Nat.le_refl _, fun _ t ht => absurd ht (Nat.not_lt_zero _)⟩
  | k + 1, h => by
    obtain ⟨h1, h2⟩ := pcL_sub k (fun t ht => h t (by omega))
    have h3 := h k (Nat.lt_succ_self _)
    have e1 : pcL w (k + 1) = pcL w k + (if w.testBit k = true then 1 else 0) := rfl
    have e2 : pcL w' (k + 1) = pcL w' k + (if w'.testBit k = true then 1 else 0) := rfl
    rw [e1, e2]
    cases a : w.testBit k with
    | true =>
      have c := h3 a
      rw [c]
      simp only [if_true]
      refine ⟨by omega, fun q t ht => ?_⟩
      rcases (show t = k ∨ t < k by omega) with rfl | g
      · rw [a, c]
      · exact h2 (by omega) t g
    | false =>
      cases c : w'.testBit k with
      | true =>
        simp
        exact ⟨by omega, fun q => by omega⟩
      | false =>
        simp
        refine ⟨h1, fun q t ht => ?_⟩
        rcases (show t = k ∨ t < k by omega) with rfl | g
        · rw [a, c]
        · exact h2 q t g
/-- both say the same fewest words -/
theorem few_same {u : Nat} (hu : u ≤ 120) {P A : Nat → Nat → Int32} (hT : tbI 0 u A) (hN : NR u P A) {n : Nat} (hn : n < u) (h8 : kbW A 40 (nI n) ≤ 8) {bf : Nat} {o' : Nat → Int32} {A' : Nat → Nat → Int32} {R kk : Int32} (h : fwO A n (kbW A 40 (nI n)) bf o' A' R) : ((tlW (nI u) kk (Int32.ofInt 1) P 41 (nI n) (Int32.ofInt 0)).length ≤ 20 ∧ R = nI (tlW (nI u) kk (Int32.ofInt 1) P 41 (nI n) (Int32.ofInt 0)).length ∧ o' 10 = nI (tlW (nI u) kk (Int32.ofInt 1) P 41 (nI n) (Int32.ofInt 0)).length ∧ hasW (A' 8) (tlW (nI u) kk (Int32.ofInt 1) P 41 (nI n) (Int32.ofInt 0))) ∨ (20 < (tlW (nI u) kk (Int32.ofInt 1) P 41 (nI n) (Int32.ofInt 0)).length ∧ R = c8 (-2) ∧ o' 10 = nI bf ∧ ∀ i, i < bf → A' 8 i = A 8 i) := by
  have hp := pt_of hT (Nat.zero_le _) hn
  have hl := dbF_len (by omega) hT 40 (nI n) false hp
  obtain ⟨d, hd, hb⟩ := bits_w (dbF A 40 (nI n) false)
  rw [hl] at hd hb
  have hX := DX_of (by omega) hT (b := btN d (kbW A 40 (nI n))) 40 (nI n) 0 false hp (fun j hj => by rw [Nat.zero_add]; exact hb j hj)
  have htop : mayN (kdN A (nI n)) = true → ¬ btN d (kbW A 40 (nI n)) 0 = true := fun m => by
    rw [hX.2 m (by decide)]
    decide
  have ew : tlW (nI u) kk (Int32.ofInt 1) P 41 (nI n) (Int32.ofInt 0) = wdF A (btN d (kbW A 40 (nI n))) 40 (nI n) 0 := by
    have := tl_sp hu hT hN (kk := kk) 40 (nI n) 0 hp hX.1 (Int32.ofInt 0) ⟨fun _ q => htop q.1 q.2, fun _ => by decide⟩
    rwa [cvI_nI (by omega)] at this
  have hDD := DX_DD _ _ _ hX.1
  rw [ew]
  have sub : ∀ w', DD A (btN w' (kbW A 40 (nI n))) 40 (nI n) 0 → ∀ j, j < kbW A 40 (nI n) → btN d (kbW A 40 (nI n)) j = true → btN w' (kbW A 40 (nI n)) j = true := fun w' hw' j hj q => by
    have := DX_sub (by omega) hT (b := btN d (kbW A 40 (nI n))) (b' := btN w' (kbW A 40 (nI n))) 40 (nI n) 0 hp hX.1 hw' (fun m q => absurd q (htop m)) j hj (by rw [Nat.zero_add]; exact q)
    rwa [Nat.zero_add] at this
  rcases h with ⟨w, w1, w2, w3, w4, w5, w6⟩ | ⟨h1, h2, h3, h4⟩
  · have s := sub w w2.1
    have hlen := wdF_mono (by omega) hT (b := btN d (kbW A 40 (nI n))) (b' := btN w (kbW A 40 (nI n))) 40 (nI n) 0 hp (fun j hj q => by rw [Nat.zero_add] at q ⊢; exact s j hj q)
    have gd : gdW A n (kbW A 40 (nI n)) d := ⟨hDD, Nat.le_trans hlen w2.2⟩
    have hpc := w3 d hd gd
    have big : ∀ v, v < 2 ^ kbW A 40 (nI n) → ∀ t, kbW A 40 (nI n) ≤ t → v.testBit t = false := fun v hv t ht => Nat.testBit_lt_two_pow (Nat.lt_of_lt_of_le hv (Nat.pow_le_pow_right (by decide) ht))
    have hs := pcL_sub (w := d) (w' := w) 8 (fun t ht q => by
      rcases Nat.lt_or_ge t (kbW A 40 (nI n)) with g | g
      · have := s (kbW A 40 (nI n) - 1 - t) (by omega) (by unfold btN; rw [show kbW A 40 (nI n) - (kbW A 40 (nI n) - 1 - t + 1) = t by omega]; exact q)
        unfold btN at this
        rwa [show kbW A 40 (nI n) - (kbW A 40 (nI n) - 1 - t + 1) = t by omega] at this
      · rw [big d hd t g] at q
        exact absurd q (by decide))
    have edw : d = w := by
      apply Nat.eq_of_testBit_eq
      intro t
      rcases Nat.lt_or_ge t 8 with g | g
      · exact hs.2 hpc t g
      · rw [big d hd t (by omega), big w w1 t (by omega)]
    subst edw
    exact Or.inl ⟨gd.2, w4, w5, w6⟩
  · refine Or.inr ⟨?_, h2, h3, h4⟩
    rcases Nat.lt_or_ge 20 (wdF A (btN d (kbW A 40 (nI n))) 40 (nI n) 0).length with g | g
    · exact g
    · exact absurd ⟨hDD, g⟩ (h1 d hd)
