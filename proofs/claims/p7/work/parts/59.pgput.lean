theorem upd2 (f : Nat → Int32) (i : Nat) (x y : Int32) : upd (upd f i x) i y = upd f i y := by
  funext j
  unfold upd
  by_cases h : j = i
  · rw [if_pos h, if_pos h]
  · rw [if_neg h, if_neg h, if_neg h]
theorem updA_self (A : Nat → Nat → Int32) (k : Nat) (g : Nat → Int32) : updA A k g k = g := if_pos rfl
def pgB (b u : Nat) (P : Nat → Nat → Int32) : Prop := pgI u (P (b + 1)) (P (b + 3)) (P (b + 4)) (P (b + 5))
/-- a page that has grown -/
def pgX (b m : Nat) (P : Nat → Nat → Int32) (m' : Nat) (P' : Nat → Nat → Int32) : Prop := m ≤ m' ∧ m' ≤ 120 ∧ pgB b m' P' ∧ (∀ j, j < m → P' (b + 5) j = P (b + 5) j) ∧ (∀ i, ¬ (b < i ∧ i ≤ b + 12) → P' i = P i)
theorem pgX_refl {b m : Nat} {P : Nat → Nat → Int32} (hm : m ≤ 120) (h : pgB b m P) : pgX b m P m P := ⟨Nat.le_refl _, hm, h, fun _ _ => rfl, fun _ _ => rfl⟩
theorem pgX_trans {b m m' m'' : Nat} {P P' P'' : Nat → Nat → Int32} (h : pgX b m P m' P') (k : pgX b m' P' m'' P'') : pgX b m P m'' P'' :=
  ⟨Nat.le_trans h.1 k.1, k.2.1, k.2.2.1, fun j hj => (k.2.2.2.1 j (Nat.lt_of_lt_of_le hj h.1)).trans (h.2.2.2.1 j hj), fun i hi => (k.2.2.2.2 i hi).trans (h.2.2.2.2 i hi)⟩
theorem okp_le {n m : Nat} {x : Int32} (h : okp n x) (hm : n ≤ m) : okp m x := h.imp id (fun ⟨j, hj, e⟩ => ⟨j, Nat.lt_of_lt_of_le hj hm, e⟩)
theorem szq_m1 (S : Nat → Int32) : szq S (Int32.ofInt (-1)) = 0 := if_neg (by decide)
theorem szq_nI (S : Nat → Int32) {j : Nat} (hj : j < 120) : szq S (nI j) = (S j).toNatClampNeg := by
  unfold szq nC
  rw [if_pos (by rw [nI_toInt (by omega)]; omega), nI_clamp (by omega)]
theorem szq_eq {S T : Nat → Int32} {m : Nat} {x : Int32} (hm : m ≤ 120) (hx : okp m x) (h : ∀ j, j < m → S j = T j) : szq S x = szq T x := by
  rcases hx with rfl | ⟨j, hj, rfl⟩
  · rw [szq_m1, szq_m1]
  · rw [szq_nI S (by omega), szq_nI T (by omega), h j hj]
theorem adI_row {b i : Nat} (u : Int32) (P : Nat → Nat → Int32) (n : Nat) (x : Int32) (h : ¬ (b + 5 ≤ i ∧ i ≤ b + 10)) : adI b u P n x i = P i := by
  unfold adI
  split
  · unfold adA
    rw [updA_ne _ _ (show i ≠ b + 10 by omega), updA_ne _ _ (show i ≠ b + 9 by omega), updA_ne _ _ (show i ≠ b + 8 by omega), updA_ne _ _ (show i ≠ b + 7 by omega), updA_ne _ _ (show i ≠ b + 6 by omega), updA_ne _ _ (show i ≠ b + 5 by omega)]
  · rfl
theorem adI_sz {b : Nat} (u : Int32) (P : Nat → Nat → Int32) (n : Nat) (x : Int32) : adI b u P n x (b + 5) = if 0 ≤ x.toInt ∧ x.toInt < u.toInt then upd (P (b + 5)) n (P (b + 5) n + P (b + 5) (nC x)) else P (b + 5) := by
  unfold adI
  split
  · unfold adA
    rw [updA_ne _ _ (show b + 5 ≠ b + 10 by omega), updA_ne _ _ (show b + 5 ≠ b + 9 by omega), updA_ne _ _ (show b + 5 ≠ b + 8 by omega), updA_ne _ _ (show b + 5 ≠ b + 7 by omega), updA_ne _ _ (show b + 5 ≠ b + 6 by omega), updA_self]
  · rfl
theorem putV_o {b i : Nat} (P : Nat → Nat → Int32) (n : Nat) (k v x y ow ch le ca : Int32) (h : ¬ (b < i ∧ i ≤ b + 10)) : putV b P n k v x y ow ch le ca i = P i := by
  unfold putV
  rw [updA_ne _ _ (show i ≠ b + 10 by omega), updA_ne _ _ (show i ≠ b + 9 by omega), updA_ne _ _ (show i ≠ b + 8 by omega), updA_ne _ _ (show i ≠ b + 7 by omega), updA_ne _ _ (show i ≠ b + 6 by omega), updA_ne _ _ (show i ≠ b + 5 by omega), updA_ne _ _ (show i ≠ b + 4 by omega), updA_ne _ _ (show i ≠ b + 3 by omega), updA_ne _ _ (show i ≠ b + 2 by omega), updA_ne _ _ (show i ≠ b + 1 by omega)]
theorem putV_1 {b : Nat} (P : Nat → Nat → Int32) (n : Nat) (k v x y ow ch le ca : Int32) : putV b P n k v x y ow ch le ca (b + 1) = upd (P (b + 1)) n k := by
  unfold putV
  rw [updA_ne _ _ (show b + 1 ≠ b + 10 by omega), updA_ne _ _ (show b + 1 ≠ b + 9 by omega), updA_ne _ _ (show b + 1 ≠ b + 8 by omega), updA_ne _ _ (show b + 1 ≠ b + 7 by omega), updA_ne _ _ (show b + 1 ≠ b + 6 by omega), updA_ne _ _ (show b + 1 ≠ b + 5 by omega), updA_ne _ _ (show b + 1 ≠ b + 4 by omega), updA_ne _ _ (show b + 1 ≠ b + 3 by omega), updA_ne _ _ (show b + 1 ≠ b + 2 by omega), updA_self]
theorem putV_3 {b : Nat} (P : Nat → Nat → Int32) (n : Nat) (k v x y ow ch le ca : Int32) : putV b P n k v x y ow ch le ca (b + 3) = upd (P (b + 3)) n x := by
  unfold putV
  rw [updA_ne _ _ (show b + 3 ≠ b + 10 by omega), updA_ne _ _ (show b + 3 ≠ b + 9 by omega), updA_ne _ _ (show b + 3 ≠ b + 8 by omega), updA_ne _ _ (show b + 3 ≠ b + 7 by omega), updA_ne _ _ (show b + 3 ≠ b + 6 by omega), updA_ne _ _ (show b + 3 ≠ b + 5 by omega), updA_ne _ _ (show b + 3 ≠ b + 4 by omega), updA_self]
theorem putV_4 {b : Nat} (P : Nat → Nat → Int32) (n : Nat) (k v x y ow ch le ca : Int32) : putV b P n k v x y ow ch le ca (b + 4) = upd (P (b + 4)) n y := by
  unfold putV
  rw [updA_ne _ _ (show b + 4 ≠ b + 10 by omega), updA_ne _ _ (show b + 4 ≠ b + 9 by omega), updA_ne _ _ (show b + 4 ≠ b + 8 by omega), updA_ne _ _ (show b + 4 ≠ b + 7 by omega), updA_ne _ _ (show b + 4 ≠ b + 6 by omega), updA_ne _ _ (show b + 4 ≠ b + 5 by omega), updA_self]
theorem putV_5 {b : Nat} (P : Nat → Nat → Int32) (n : Nat) (k v x y ow ch le ca : Int32) : putV b P n k v x y ow ch le ca (b + 5) = upd (P (b + 5)) n (Int32.ofInt 1) := by
  unfold putV
  rw [updA_ne _ _ (show b + 5 ≠ b + 10 by omega), updA_ne _ _ (show b + 5 ≠ b + 9 by omega), updA_ne _ _ (show b + 5 ≠ b + 8 by omega), updA_ne _ _ (show b + 5 ≠ b + 7 by omega), updA_ne _ _ (show b + 5 ≠ b + 6 by omega), updA_self]
theorem adSz {b m : Nat} {A : Nat → Nat → Int32} {S : Nat → Int32} {x : Int32} (hm : m < 120) (h1 : ∀ j, j < m → A (b + 5) j = S j) (hS : ∀ j, j < m → ∃ z : Nat, z ≤ 40 ∧ S j = nI z) (hx : okp m x) : adI b (nI m) A m x (b + 5) = upd (A (b + 5)) m (A (b + 5) m + nI (szq S x)) := by
  rw [adI_sz]
  rcases hx with rfl | ⟨j, hj, rfl⟩
  · rw [if_neg (fun q => absurd q.1 (by decide)), szq_m1]
    funext i
    unfold upd
    split
    · rename_i h; subst h; exact (Int32.add_zero _).symm
    · rfl
  · obtain ⟨z, hz, ez⟩ := hS j hj
    rw [if_pos ⟨by rw [nI_toInt (by omega)]; omega, by rw [nI_toInt (by omega), nI_toInt (by omega)]; omega⟩, szq_nI S (by omega), show nC (nI j) = j from nI_clamp (by omega), h1 j hj, ez, nI_clamp (by omega)]
set_option maxHeartbeats 1000000 in
theorem pgPut {b m : Nat} {P : Nat → Nat → Int32} (hp : pgB b m P) (hm : m < 120) {k x y : Int32} (v ow ch le ca : Int32) {kn : Nat} (hk : kn < 10) (ek : k = nI kn) (hx : okp m x) (hy : okp m y) (hs : 1 + szq (P (b + 5)) x + szq (P (b + 5)) y ≤ 40) (R : Nat → Int32) {P' : Nat → Nat → Int32} (e : P' = updA (adI b (nI m) (adI b (nI m) (putV b P m k v x y ow ch le ca) m x) m y) (b + 11) R) : pgX b m P (m + 1) P' ∧ szq (P' (b + 5)) (nI m) = 1 + szq (P (b + 5)) x + szq (P (b + 5)) y := by
  have r1 : P' (b + 1) = upd (P (b + 1)) m k := by rw [e, updA_ne _ _ (by omega), adI_row _ _ _ _ (by omega), adI_row _ _ _ _ (by omega), putV_1]
  have r3 : P' (b + 3) = upd (P (b + 3)) m x := by rw [e, updA_ne _ _ (by omega), adI_row _ _ _ _ (by omega), adI_row _ _ _ _ (by omega), putV_3]
  have r4 : P' (b + 4) = upd (P (b + 4)) m y := by rw [e, updA_ne _ _ (by omega), adI_row _ _ _ _ (by omega), adI_row _ _ _ _ (by omega), putV_4]
  have hS : ∀ j, j < m → ∃ z : Nat, z ≤ 40 ∧ P (b + 5) j = nI z := fun j hj => by
    obtain ⟨-, -, -, z, hz, -, z2, -⟩ := hp j hj
    exact ⟨z, z2, hz⟩
  have e1 := putV_5 (b := b) P m k v x y ow ch le ca
  generalize hA1 : putV b P m k v x y ow ch le ca = A1 at e e1
  have e2 : adI b (nI m) A1 m x (b + 5) = upd (P (b + 5)) m (nI (1 + szq (P (b + 5)) x)) := by
    rw [adSz (S := P (b + 5)) hm (fun j hj => by rw [e1, upd_ne _ _ (by omega)]) hS hx, e1, upd2, upd_self, show Int32.ofInt 1 = nI 1 from rfl, nI_plus]
  generalize hA2 : adI b (nI m) A1 m x = A2 at e e2
  have e3 : adI b (nI m) A2 m y (b + 5) = upd (P (b + 5)) m (nI (1 + szq (P (b + 5)) x + szq (P (b + 5)) y)) := by
    rw [adSz (S := P (b + 5)) hm (fun j hj => by rw [e2, upd_ne _ _ (by omega)]) hS hy, e2, upd2, upd_self, nI_plus]
  have r5 : P' (b + 5) = upd (P (b + 5)) m (nI (1 + szq (P (b + 5)) x + szq (P (b + 5)) y)) := by rw [e, updA_ne _ _ (by omega), e3]
  have hq : ∀ {z : Int32} {n : Nat}, okp n z → n ≤ m → szq (P' (b + 5)) z = szq (P (b + 5)) z := fun {z n} hz hn => szq_eq (m := n) (by omega) hz (fun j hj => by rw [r5, upd_ne _ _ (by omega)])
  refine ⟨⟨by omega, by omega, ?_, fun j hj => by rw [r5, upd_ne _ _ (by omega)], ?_⟩, ?_⟩
  · intro n hn
    by_cases h : n = m
    · subst h
      refine ⟨⟨kn, hk, by rw [r1, upd_self, ek]⟩, by rw [r3, upd_self]; exact hx, by rw [r4, upd_self]; exact hy, _, by rw [r5, upd_self], by omega, hs, ?_⟩
      rw [r3, r4, upd_self, upd_self, hq hx (Nat.le_refl _), hq hy (Nat.le_refl _)]
      exact Nat.le_refl _
    · obtain ⟨⟨q, q1, q2⟩, hx2, hy2, z, hz, z1, z2, z3⟩ := hp n (by omega)
      refine ⟨⟨q, q1, by rw [r1, upd_ne _ _ h, q2]⟩, by rw [r3, upd_ne _ _ h]; exact hx2, by rw [r4, upd_ne _ _ h]; exact hy2, z, by rw [r5, upd_ne _ _ h, hz], z1, z2, ?_⟩
      rw [r3, r4, upd_ne _ _ h, upd_ne _ _ h, hq hx2 (by omega), hq hy2 (by omega)]
      exact z3
  · intro i hi
    rw [e, updA_ne _ _ (by omega), adI_row _ _ _ _ (by omega), ← hA2, adI_row _ _ _ _ (by omega), ← hA1, putV_o _ _ _ _ _ _ _ _ _ _ (by omega)]
  · rw [szq_nI _ hm, r5, upd_self, nI_clamp (by omega)]
theorem putYes1 {O : Nat → Int32} {P : Nat → Nat → Int32} {Y : Nat → Nat → Int64} {g : Nat → zC} {m : Nat} {k v x y : Int32} {kn : Nat} (hm : m < 120) (hp : pgB 1 m P) (hk : kn < 10) (ek : k = nI kn) (hx : okp m x) (hy : okp m y) (hs : 1 + szq (P (1 + 5)) x + szq (P (1 + 5)) y ≤ 40) {r : Option Value} {w' : zW} (h : r = some (.int (nI m)) ∧ ∃ sh ch le ca, ch = hbW (Int16.ofInt 764).toInt32 k ∧ le = (if k = 0 then Int32.ofInt 1 <<< (v &&& 31) else Int32.ofInt 0) ∧ ca = (if k = c8 9 then Int32.ofInt 1 <<< (v &&& 31) else Int32.ofInt 0) ∧ sh = faW 1 (nI m) (adI 1 (nI m) (adI 1 (nI m) (putV 1 P (nC (nI m)) k v x y (owW k v) ch le ca) (nC (nI m)) x) (nC (nI m)) y) m m 0 ∧ w' = wX (upd (upd O 1 (nI m)) 1 (nI m + Int32.ofInt 1)) (updA (adI 1 (nI m) (adI 1 (nI m) (putV 1 P (nC (nI m)) k v x y (owW k v) ch le ca) (nC (nI m)) x) (nC (nI m)) y) 12 (upd ((adI 1 (nI m) (adI 1 (nI m) (putV 1 P (nC (nI m)) k v x y (owW k v) ch le ca) (nC (nI m)) x) (nC (nI m)) y) 12) (nC (nI m)) sh)) Y g) : ∃ P' : Nat → Nat → Int32, r = some (.int (nI m)) ∧ w' = wX (upd O 1 (nI (m + 1))) P' Y g ∧ pgX 1 m P (m + 1) P' ∧ szq (P' (1 + 5)) (nI m) = 1 + szq (P (1 + 5)) x + szq (P (1 + 5)) y := by
  obtain ⟨rfl, sh, ch, le, ca, -, -, -, -, rfl⟩ := h
  have e : nC (nI m) = m := nI_clamp (by omega)
  rw [upd2, show nI m + Int32.ofInt 1 = nI (m + 1) from nI_1 m, e]
  exact ⟨_, rfl, rfl, pgPut hp hm v (owW k v) ch le ca hk ek hx hy hs _ rfl⟩
theorem putYes14 {O : Nat → Int32} {P : Nat → Nat → Int32} {Y : Nat → Nat → Int64} {g : Nat → zC} {m : Nat} {k v x y : Int32} {kn : Nat} (hm : m < 120) (hp : pgB 14 m P) (hk : kn < 10) (ek : k = nI kn) (hx : okp m x) (hy : okp m y) (hs : 1 + szq (P (14 + 5)) x + szq (P (14 + 5)) y ≤ 40) {r : Option Value} {w' : zW} (h : r = some (.int (nI m)) ∧ ∃ sh ch le ca, ch = hbW (Int16.ofInt 764).toInt32 k ∧ le = (if k = 0 then Int32.ofInt 1 <<< (v &&& 31) else Int32.ofInt 0) ∧ ca = (if k = c8 9 then Int32.ofInt 1 <<< (v &&& 31) else Int32.ofInt 0) ∧ sh = faW 14 (nI m) (adI 14 (nI m) (adI 14 (nI m) (putV 14 P (nC (nI m)) k v x y (owW k v) ch le ca) (nC (nI m)) x) (nC (nI m)) y) m m 0 ∧ w' = wX (upd (upd O 2 (nI m)) 2 (nI m + Int32.ofInt 1)) (updA (adI 14 (nI m) (adI 14 (nI m) (putV 14 P (nC (nI m)) k v x y (owW k v) ch le ca) (nC (nI m)) x) (nC (nI m)) y) 25 (upd ((adI 14 (nI m) (adI 14 (nI m) (putV 14 P (nC (nI m)) k v x y (owW k v) ch le ca) (nC (nI m)) x) (nC (nI m)) y) 25) (nC (nI m)) sh)) Y g) : ∃ P' : Nat → Nat → Int32, r = some (.int (nI m)) ∧ w' = wX (upd O 2 (nI (m + 1))) P' Y g ∧ pgX 14 m P (m + 1) P' ∧ szq (P' (14 + 5)) (nI m) = 1 + szq (P (14 + 5)) x + szq (P (14 + 5)) y := by
  obtain ⟨rfl, sh, ch, le, ca, -, -, -, -, rfl⟩ := h
  have e : nC (nI m) = m := nI_clamp (by omega)
  rw [upd2, show nI m + Int32.ofInt 1 = nI (m + 1) from nI_1 m, e]
  exact ⟨_, rfl, rfl, pgPut hp hm v (owW k v) ch le ca hk ek hx hy hs _ rfl⟩
