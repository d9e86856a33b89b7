section ZLA
variable {M : zM} {al : Bool} {n0 kc ks pc nxt a b : Nat} {c0 : Int} {l : zL} {st rest : List Value} {w : zW} {Q : Option Value → zW → Prop} {tb : List zE}
theorem zv_lald (ok : zTb M tb) (hlook : zlook tb pc = some (.laload, nxt, a, b, c0)) {k n : Nat} {f : Nat → Int64} {i : Int32} (hw : w[k]? = some (zJ n f)) (hi : vp_in i n) (kk : zV M al n0 kc ks nxt l (.long (f i.toNatClampNeg) :: st) w Q) : zV M al n0 kc ks pc l (.int i :: .ref k :: st) w Q := by
  refine zv_step ok hlook (P := vp_in i n) (pc' := nxt) (l' := l) (st' := .long (f i.toNatClampNeg) :: st) (w' := w) ?_ hi kk
  simp only [zstep, hw]
theorem zv_last (ok : zTb M tb) (hlook : zlook tb pc = some (.lastore, nxt, a, b, c0)) {k n : Nat} {f : Nat → Int64} {i : Int32} {x : Int64} (hw : w[k]? = some (zJ n f)) (hi : vp_in i n) (kk : zV M al n0 kc ks nxt l st (w.set k (zJ n (vp_updL f i.toNatClampNeg x))) Q) : zV M al n0 kc ks pc l (.long x :: .int i :: .ref k :: st) w Q := by
  refine zv_step ok hlook (P := vp_in i n) (pc' := nxt) (l' := l) (st' := st) (w' := w.set k (zJ n (vp_updL f i.toNatClampNeg x))) ?_ hi kk
  simp only [zstep, hw]
end ZLA
def updJ (A : Nat → Nat → Int64) (k : Nat) (g : Nat → Int64) : Nat → Nat → Int64 := fun j => if j = k then g else A j
set_option maxRecDepth 20000 in
theorem wY (O : Nat → Int32) (P : Nat → Nat → Int32) (Y : Nat → Nat → Int64) (g : Nat → zC) : ∀ {i : Nat}, i < 21 → (wX O P Y g)[34 + i]? = some (zJ 21 (Y (34 + i))) := by
  intro i hi
  match i, hi with
  | 0, _ => rfl
  | 1, _ => rfl
  | 2, _ => rfl
  | 3, _ => rfl
  | 4, _ => rfl
  | 5, _ => rfl
  | 6, _ => rfl
  | 7, _ => rfl
  | 8, _ => rfl
  | 9, _ => rfl
  | 10, _ => rfl
  | 11, _ => rfl
  | 12, _ => rfl
  | 13, _ => rfl
  | 14, _ => rfl
  | 15, _ => rfl
  | 16, _ => rfl
  | 17, _ => rfl
  | 18, _ => rfl
  | 19, _ => rfl
  | 20, _ => rfl
  | n + 21, h => exact absurd h (by omega)
set_option maxRecDepth 20000 in
theorem wYset (O : Nat → Int32) (P : Nat → Nat → Int32) (Y : Nat → Nat → Int64) (g : Nat → zC) (h : Nat → Int64) : ∀ {i : Nat}, i < 21 → (wX O P Y g).set (34 + i) (zJ 21 h) = wX O P (updJ Y (34 + i) h) g := by
  intro i hi
  match i, hi with
  | 0, _ => rfl
  | 1, _ => rfl
  | 2, _ => rfl
  | 3, _ => rfl
  | 4, _ => rfl
  | 5, _ => rfl
  | 6, _ => rfl
  | 7, _ => rfl
  | 8, _ => rfl
  | 9, _ => rfl
  | 10, _ => rfl
  | 11, _ => rfl
  | 12, _ => rfl
  | 13, _ => rfl
  | 14, _ => rfl
  | 15, _ => rfl
  | 16, _ => rfl
  | 17, _ => rfl
  | 18, _ => rfl
  | 19, _ => rfl
  | 20, _ => rfl
  | n + 21, h => exact absurd h (by omega)
theorem dLs : ∀ {i : Nat}, i < 21 → ([some 34, some 35, some 36, some 37, some 38, some 39, some 40, some 41, some 42, some 43, some 44, some 45, some 46, some 47, some 48, some 49, some 50, some 51, some 52, some 53, some 54] : List (Option Nat)).getD i none = some (34 + i) := by
  intro i hi
  match i, hi with
  | 0, _ => rfl
  | 1, _ => rfl
  | 2, _ => rfl
  | 3, _ => rfl
  | 4, _ => rfl
  | 5, _ => rfl
  | 6, _ => rfl
  | 7, _ => rfl
  | 8, _ => rfl
  | 9, _ => rfl
  | 10, _ => rfl
  | 11, _ => rfl
  | 12, _ => rfl
  | 13, _ => rfl
  | 14, _ => rfl
  | 15, _ => rfl
  | 16, _ => rfl
  | 17, _ => rfl
  | 18, _ => rfl
  | 19, _ => rfl
  | 20, _ => rfl
  | n + 21, h => exact absurd h (by omega)
/-- the ways of all spans, bounded -/
def wyI (Y : Nat → Nat → Int64) : Prop := ∀ i j : Nat, i < j → j ≤ 20 → 0 ≤ (Y (34 + i) j).toInt ∧ (Y (34 + i) j).toInt ≤ ((8 ^ (j - i - 1) : Nat) : Int)
def hbB (w : Nat) : Nat := if w < 3 then 1 else 26 * 8 ^ (w - 3)
def hsB (w : Nat) : Nat := if w < 3 then 0 else 18 * 8 ^ (w - 3)
def inB (v : Int64) (n : Nat) : Prop := 0 ≤ v.toInt ∧ v.toInt ≤ (n : Int)
theorem inB_le {v : Int64} {n m : Nat} (h : inB v n) (hm : n ≤ m) : inB v m := ⟨h.1, Int.le_trans h.2 (Int.ofNat_le.mpr hm)⟩
theorem inB_mul {x y : Int64} {A B : Nat} (hx : inB x A) (hy : inB y B) (h : A * B < 2 ^ 62) : inB (x * y) (A * B) := by
  have h0 : 0 ≤ x.toInt * y.toInt := Int.mul_nonneg hx.1 hy.1
  have h1 : x.toInt * y.toInt ≤ (A : Int) * (B : Int) := Int.mul_le_mul hx.2 hy.2 hy.1 (Int.natCast_nonneg A)
  have h2 : (A : Int) * (B : Int) = ((A * B : Nat) : Int) := (Int.natCast_mul A B).symm
  have h3 : (x * y).toInt = x.toInt * y.toInt := by
    rw [Int64.toInt_mul]
    exact Int.bmod_eq_of_le (by omega) (by omega)
  exact ⟨by omega, by omega⟩
theorem inB_add {x y : Int64} {A B : Nat} (hx : inB x A) (hy : inB y B) (h : A + B < 2 ^ 62) : inB (x + y) (A + B) := by
  have a1 := hx.1
  have a2 := hx.2
  have b1 := hy.1
  have b2 := hy.2
  have h3 : (x + y).toInt = x.toInt + y.toInt := by
    rw [Int64.toInt_add]
    exact Int.bmod_eq_of_le (by omega) (by omega)
  exact ⟨by omega, by omega⟩
theorem pow8 {n m : Nat} (h : n ≤ m) : 8 ^ n ≤ 8 ^ m := Nat.pow_le_pow_right (by decide) h
theorem pow8_17 {n : Nat} (h : n ≤ 17) : 8 ^ n ≤ 2251799813685248 := Nat.le_trans (pow8 h) (by decide)
theorem inB_1 : inB (Int64.ofInt 1) 1 := by unfold inB; decide
theorem inB_0 (n : Nat) : inB (Int64.ofInt 0) n := by
  refine inB_le (n := 0) ?_ (Nat.zero_le _)
  unfold inB; decide
theorem hs_hb {s : Int64} {d : Nat} (hs : inB s (hsB d)) : inB s (hbB d) := by
  refine inB_le hs ?_
  unfold hsB hbB
  split <;> omega
theorem hs_1 {s : Int64} {d : Nat} (hd : d ≤ 20) (hs : inB s (hsB d)) : inB (s + Int64.ofInt 1) (hbB d) := by
  unfold hsB at hs
  unfold hbB
  split at hs
  · rename_i q
    rw [if_pos q]
    exact inB_add hs inB_1 (by decide)
  · rename_i q
    rw [if_neg q]
    have h1 := pow8_17 (n := d - 3) (by omega)
    have h2 : 1 ≤ 8 ^ (d - 3) := Nat.one_le_pow _ _ (by decide)
    exact inB_le (inB_add hs inB_1 (by omega)) (by omega)
theorem hs_w {s v : Int64} {d e : Nat} (hd : d ≤ 20) (hd2 : 2 ≤ d) (he : e + 2 ≤ d) (hs : inB s (hsB d)) (hv : inB v (8 ^ e)) : inB (s + v) (hbB d) := by
  unfold hsB at hs
  unfold hbB
  split at hs
  · rename_i q
    rw [if_pos q]
    have e0 : e = 0 := by omega
    subst e0
    exact inB_add hs hv (by decide)
  · rename_i q
    rw [if_neg q]
    have h1 := pow8_17 (n := d - 3) (by omega)
    have h2 : 8 ^ e ≤ 8 * 8 ^ (d - 3) := by
      have := pow8 (n := e) (m := (d - 3) + 1) (by omega)
      rw [Nat.pow_succ] at this
      omega
    exact inB_le (inB_add hs hv (by omega)) (by omega)
theorem hs_exit {s : Int64} {a b m : Nat} (hb : b ≤ 20) (hm : a < m) (hmb : m = a + 1 ∨ m ≤ b - 1) (hs : inB s ((m - a - 1) * 8 ^ (b - a - 3))) : inB s (hsB (b - a)) := by
  refine inB_le hs ?_
  unfold hsB
  split
  · have : m - a - 1 = 0 := by omega
    rw [this]; omega
  · exact Nat.mul_le_mul_right _ (by omega)
theorem hs_step {s x y : Int64} {a b m : Nat} (hb : b ≤ 20) (hm : a < m) (hmb : m < b - 1) (hs : inB s ((m - a - 1) * 8 ^ (b - a - 3))) (hx : inB x (8 ^ (m - a - 1))) (hy : inB y (8 ^ (b - (m + 1) - 1))) : inB (s + x * y) ((m + 1 - a - 1) * 8 ^ (b - a - 3)) := by
  have e : 8 ^ (m - a - 1) * 8 ^ (b - (m + 1) - 1) = 8 ^ (b - a - 3) := by
    rw [← Nat.pow_add]
    congr 1
    omega
  have h1 := pow8_17 (n := b - a - 3) (by omega)
  have h2 : (m - a - 1) * 8 ^ (b - a - 3) ≤ 18 * 2251799813685248 := Nat.mul_le_mul (by omega) h1
  have hxy := inB_mul hx hy (by rw [e]; omega)
  rw [e] at hxy
  have e2 : m + 1 - a - 1 = (m - a - 1) + 1 := by omega
  rw [e2, Nat.succ_mul]
  exact inB_add hs hxy (by omega)
theorem hb_two {x y : Int64} {d : Nat} (hd : d ≤ 20) (h3 : 2 < d) (hx : inB x (hbB d)) (hy : inB y (hbB (d - 2))) : inB (x + y) (8 ^ (d - 1)) := by
  have h1 := pow8_17 (n := d - 3) (by omega)
  have e1 : 8 ^ (d - 1) = 64 * 8 ^ (d - 3) := by
    rw [show d - 1 = (d - 3) + 2 by omega, Nat.pow_add]; omega
  have h2 : hbB d = 26 * 8 ^ (d - 3) := if_neg (by omega)
  have h4 : hbB (d - 2) ≤ 26 * 8 ^ (d - 3) := by
    unfold hbB
    have h5 : 1 ≤ 8 ^ (d - 3) := Nat.one_le_pow _ _ (by decide)
    have h6 := pow8 (n := d - 2 - 3) (m := d - 3) (by omega)
    split <;> omega
  rw [e1]
  exact inB_le (inB_add hx hy (by omega)) (by omega)
theorem hb_one {x : Int64} {d : Nat} (hd1 : 1 ≤ d) (hx : inB x (hbB d)) : inB x (8 ^ (d - 1)) := by
  refine inB_le hx ?_
  unfold hbB
  split
  · exact Nat.one_le_pow _ _ (by decide)
  · rw [show d - 1 = (d - 3) + 2 by omega, Nat.pow_add]; omega
/-- what a span of d words may be by its ends -/
def keR (d : Nat) (k : Int32) : Prop := k = Int32.ofInt (-1) ∨ k = Int32.ofInt 0 ∨ k = Int32.ofInt 1 ∨ (k = c8 7 ∧ 1 < d) ∨ (k = c8 8 ∧ 2 < d) ∨ (k = c8 9 ∧ 2 < d)
theorem nI_2 (a : Nat) : nI a + Int32.ofInt 2 = nI (a + 2) := by
  rw [show Int32.ofInt 2 = Int32.ofInt 1 + Int32.ofInt 1 from rfl, ← Int32.add_assoc]
  exact (congrArg (fun x => x + Int32.ofInt 1) (nI_1 a)).trans (nI_1 (a + 1))
theorem keR_span {a b : Nat} (hab : a < b) (hb : b ≤ 20) {k : Int32} (hk : keR (b - a) k) (h1 : Int32.ofInt 1 < k) : ∃ f t : Nat, pfW k (nI a) = nI f ∧ ptoW k (nI b) = nI t ∧ a < f ∧ f < t ∧ t ≤ b := by
  rcases hk with h | h | h | ⟨h, hd⟩ | ⟨h, hd⟩ | ⟨h, hd⟩
  · subst h; exact absurd h1 (by decide)
  · subst h; exact absurd h1 (by decide)
  · subst h; exact absurd h1 (by decide)
  · subst h; exact ⟨a + 1, b, (if_neg (by decide)).trans (nI_1 a), if_neg (by decide), by omega, by omega, by omega⟩
  · subst h; exact ⟨a + 1, b - 1, (if_neg (by decide)).trans (nI_1 a), (if_pos rfl).trans (sub_1 (by omega)), by omega, by omega, by omega⟩
  · subst h; exact ⟨a + 2, b, (if_pos rfl).trans (nI_2 a), if_neg (by decide), by omega, by omega, by omega⟩
set_option maxHeartbeats 1000000 in
set_option maxRecDepth 20000 in
theorem hKe (O : Nat → Int32) (P : Nat → Nat → Int32) (Y : Nat → Nat → Int64) (g : Nat → zC) {a b : Nat} (hab : a < b) (hb : b ≤ 20) : zK 1 zX0_kindByEnds [.ref 31, .int (nI a), .int (nI b)] (wX O P Y g) (fun r w' => w' = wX O P Y g ∧ ∃ k, r = some (.int k) ∧ keR (b - a) k) := by
  refine zK_of qX0_kindByEnds (by decide +kernel) rfl ?_
  iterate 3 (refine zv_step (bX0_kindByEnds 1) rfl rfl trivial ?_)
  refine zv_iale (bX0_kindByEnds 1) rfl rfl (show vp_in (nI a) 20 by exact vp_in_nI (by omega) (by decide)) (show P 32 (nI a).toNatClampNeg = P 32 (a) by rw [nI_clamp (by omega)]) ?_
  iterate 4 (refine zv_step (bX0_kindByEnds 1) rfl rfl trivial ?_)
  refine zv_ifb (fun h0 => ?_) (fun h0 => ?_)
  · iterate 3 (refine zv_step (bX0_kindByEnds 1) rfl rfl trivial ?_)
    refine zv_ifb (fun h1 => ?_) (fun h1 => ?_)
    · iterate 3 (refine zv_step (bX0_kindByEnds 1) rfl rfl trivial ?_)
      refine zv_ifb (fun h2 => ?_) (fun h2 => ?_)
      · iterate 3 (refine zv_step (bX0_kindByEnds 1) rfl rfl trivial ?_)
        refine zv_V2 (bX0_kindByEnds 1) rfl rfl rfl rfl rfl rfl rfl ⟨rfl, rfl, rfl⟩ ⟨by decide, by decide⟩ ⟨Nat.zero_le _, Nat.zero_le _⟩ (hNum O P Y g hab hb) ?_
        rintro _ _ ⟨rfl, rfl⟩
        iterate 2 (refine zv_step (bX0_kindByEnds 1) rfl rfl trivial ?_)
        refine zv_ifb (fun h3 => ?_) (fun h3 => ?_)
        · iterate 1 (refine zv_step (bX0_kindByEnds 1) rfl rfl trivial ?_)
          exact zv_iret (bX0_kindByEnds 1) rfl (Or.inl rfl) (Nat.zero_le _) (Nat.zero_le _) ⟨rfl, _, rfl, Or.inr (Or.inr (Or.inl rfl))⟩
        · iterate 2 (refine zv_step (bX0_kindByEnds 1) rfl rfl trivial ?_)
          exact zv_iret (bX0_kindByEnds 1) rfl (Or.inl rfl) (Nat.zero_le _) (Nat.zero_le _) ⟨rfl, _, rfl, Or.inl rfl⟩
      · iterate 5 (refine zv_step (bX0_kindByEnds 1) rfl rfl trivial ?_)
        refine zv_ifb (fun hc => ?_) (fun hc => ?_)
        · have hc : nI b - nI a ≤ Int32.ofInt 2 := hc
          rw [show Int32.ofInt 2 = nI 2 from rfl, sub_le (by omega) (by omega) (by decide)] at hc
          iterate 1 (refine zv_step (bX0_kindByEnds 1) rfl rfl trivial ?_)
          exact zv_iret (bX0_kindByEnds 1) rfl (Or.inl rfl) (Nat.zero_le _) (Nat.zero_le _) ⟨rfl, _, rfl, Or.inl rfl⟩
        · have hc : ¬ nI b - nI a ≤ Int32.ofInt 2 := hc
          rw [show Int32.ofInt 2 = nI 2 from rfl, sub_le (by omega) (by omega) (by decide)] at hc
          iterate 5 (refine zv_step (bX0_kindByEnds 1) rfl rfl trivial ?_)
          refine zv_iale (bX0_kindByEnds 1) rfl rfl (show vp_in (nI b - Int32.ofInt 1) 20 by rw [sub_1 (by omega)]; exact vp_in_nI (by omega) (by decide)) (show P 32 (nI b - Int32.ofInt 1).toNatClampNeg = P 32 (b - 1) by rw [sub_1 (by omega), nI_clamp (by omega)]) ?_
          iterate 2 (refine zv_step (bX0_kindByEnds 1) rfl rfl trivial ?_)
          refine zv_ifb (fun h4 => ?_) (fun h4 => ?_)
          · iterate 1 (refine zv_step (bX0_kindByEnds 1) rfl rfl trivial ?_)
            exact zv_iret (bX0_kindByEnds 1) rfl (Or.inl rfl) (Nat.zero_le _) (Nat.zero_le _) ⟨rfl, _, rfl, Or.inl rfl⟩
          · iterate 2 (refine zv_step (bX0_kindByEnds 1) rfl rfl trivial ?_)
            exact zv_iret (bX0_kindByEnds 1) rfl (Or.inl rfl) (Nat.zero_le _) (Nat.zero_le _) ⟨rfl, _, rfl, Or.inr (Or.inr (Or.inr (Or.inr (Or.inl ⟨rfl, by omega⟩))))⟩
    · iterate 5 (refine zv_step (bX0_kindByEnds 1) rfl rfl trivial ?_)
      refine zv_ifb (fun hc => ?_) (fun hc => ?_)
      · have hc : nI b - nI a ≤ Int32.ofInt 1 := hc
        rw [show Int32.ofInt 1 = nI 1 from rfl, sub_le (by omega) (by omega) (by decide)] at hc
        iterate 1 (refine zv_step (bX0_kindByEnds 1) rfl rfl trivial ?_)
        exact zv_iret (bX0_kindByEnds 1) rfl (Or.inl rfl) (Nat.zero_le _) (Nat.zero_le _) ⟨rfl, _, rfl, Or.inl rfl⟩
      · have hc : ¬ nI b - nI a ≤ Int32.ofInt 1 := hc
        rw [show Int32.ofInt 1 = nI 1 from rfl, sub_le (by omega) (by omega) (by decide)] at hc
        iterate 2 (refine zv_step (bX0_kindByEnds 1) rfl rfl trivial ?_)
        exact zv_iret (bX0_kindByEnds 1) rfl (Or.inl rfl) (Nat.zero_le _) (Nat.zero_le _) ⟨rfl, _, rfl, Or.inr (Or.inr (Or.inr (Or.inl ⟨rfl, by omega⟩)))⟩
  · iterate 3 (refine zv_step (bX0_kindByEnds 1) rfl rfl trivial ?_)
    refine zv_S2 (bX0_kindByEnds 1) rfl rfl rfl rfl ⟨rfl, rfl, rfl⟩ ⟨by decide, by decide⟩ ⟨Nat.zero_le _, Nat.zero_le _⟩ (pHasBitW _ _ _) ?_
    rintro _ _ ⟨rfl, rfl⟩
    iterate 3 (refine zv_step (bX0_kindByEnds 1) rfl rfl trivial ?_)
    refine zv_ifb (fun h5 => ?_) (fun h5 => ?_)
    · iterate 5 (refine zv_step (bX0_kindByEnds 1) rfl rfl trivial ?_)
      refine zv_ifb (fun h6 => ?_) (fun h6 => ?_)
      · iterate 1 (refine zv_step (bX0_kindByEnds 1) rfl rfl trivial ?_)
        exact zv_iret (bX0_kindByEnds 1) rfl (Or.inl rfl) (Nat.zero_le _) (Nat.zero_le _) ⟨rfl, _, rfl, Or.inl rfl⟩
      · iterate 2 (refine zv_step (bX0_kindByEnds 1) rfl rfl trivial ?_)
        exact zv_iret (bX0_kindByEnds 1) rfl (Or.inl rfl) (Nat.zero_le _) (Nat.zero_le _) ⟨rfl, _, rfl, Or.inr (Or.inl rfl)⟩
    · iterate 5 (refine zv_step (bX0_kindByEnds 1) rfl rfl trivial ?_)
      refine zv_ifb (fun hc => ?_) (fun hc => ?_)
      · have hc : nI b - nI a ≤ Int32.ofInt 2 := hc
        rw [show Int32.ofInt 2 = nI 2 from rfl, sub_le (by omega) (by omega) (by decide)] at hc
        iterate 1 (refine zv_step (bX0_kindByEnds 1) rfl rfl trivial ?_)
        exact zv_iret (bX0_kindByEnds 1) rfl (Or.inl rfl) (Nat.zero_le _) (Nat.zero_le _) ⟨rfl, _, rfl, Or.inl rfl⟩
      · have hc : ¬ nI b - nI a ≤ Int32.ofInt 2 := hc
        rw [show Int32.ofInt 2 = nI 2 from rfl, sub_le (by omega) (by omega) (by decide)] at hc
        iterate 5 (refine zv_step (bX0_kindByEnds 1) rfl rfl trivial ?_)
        refine zv_iale (bX0_kindByEnds 1) rfl rfl (show vp_in (nI a + Int32.ofInt 1) 20 by rw [show nI a + Int32.ofInt 1 = nI (a + 1) from nI_1 a]; exact vp_in_nI (by omega) (by decide)) (show P 32 (nI a + Int32.ofInt 1).toNatClampNeg = P 32 (a + 1) by rw [show nI a + Int32.ofInt 1 = nI (a + 1) from nI_1 a, nI_clamp (by omega)]) ?_
        iterate 2 (refine zv_step (bX0_kindByEnds 1) rfl rfl trivial ?_)
        refine zv_ifb (fun h7 => ?_) (fun h7 => ?_)
        · iterate 1 (refine zv_step (bX0_kindByEnds 1) rfl rfl trivial ?_)
          exact zv_iret (bX0_kindByEnds 1) rfl (Or.inl rfl) (Nat.zero_le _) (Nat.zero_le _) ⟨rfl, _, rfl, Or.inl rfl⟩
        · iterate 2 (refine zv_step (bX0_kindByEnds 1) rfl rfl trivial ?_)
          exact zv_iret (bX0_kindByEnds 1) rfl (Or.inl rfl) (Nat.zero_le _) (Nat.zero_le _) ⟨rfl, _, rfl, Or.inr (Or.inr (Or.inr (Or.inr (Or.inr ⟨rfl, by omega⟩))))⟩
set_option maxHeartbeats 1000000 in
set_option maxRecDepth 20000 in
theorem hBareT (O : Nat → Int32) (P : Nat → Nat → Int32) (Y : Nat → Nat → Int64) (g : Nat → zC) {a b : Nat} (hab : a < b) (hb : b ≤ 20) (k x6 : Int32) (s : Int64) (hs : wyI Y → inB s (hsB (b - a))) {n0 : Nat} : zV (zMo 2 zX0_bareWays) false n0 0 0 88 [(6, .int x6), (4, .long s), (0, .ref 31), (1, .int (nI a)), (2, .int (nI b)), (3, .int k)] [] (wX O P Y g) (fun r w' => w' = wX O P Y g ∧ ∃ v : Int64, r = some (.long v) ∧ (wyI Y → inB v (hbB (b - a)))) := by
  iterate 3 (refine zv_step (bX0_bareWays 2) rfl rfl trivial ?_)
  refine zv_V2 (bX0_bareWays 2) rfl rfl rfl rfl rfl rfl rfl ⟨rfl, rfl, rfl⟩ ⟨by decide, by decide⟩ ⟨Nat.zero_le _, Nat.zero_le _⟩ (hKe O P Y g hab hb) ?_
  rintro _ _ ⟨rfl, k9, rfl, hk9⟩
  iterate 4 (refine zv_step (bX0_bareWays 2) rfl rfl trivial ?_)
  refine zv_ifb (fun h1 => ?_) (fun h1 => ?_)
  · iterate 1 (refine zv_step (bX0_bareWays 2) rfl rfl trivial ?_)
    exact zv_lret (bX0_bareWays 2) rfl rfl (Nat.zero_le _) (Nat.zero_le _) ⟨rfl, _, rfl, fun hw => hs_hb (hs hw)⟩
  · iterate 2 (refine zv_step (bX0_bareWays 2) rfl rfl trivial ?_)
    refine zv_S2 (bX0_bareWays 2) rfl rfl rfl rfl ⟨rfl, rfl, rfl⟩ ⟨by decide, by decide⟩ ⟨Nat.zero_le _, Nat.zero_le _⟩ (pHasBitW _ _ _) ?_
    rintro _ _ ⟨rfl, rfl⟩
    iterate 1 (refine zv_step (bX0_bareWays 2) rfl rfl trivial ?_)
    refine zv_ifb (fun h2 => ?_) (fun h2 => ?_)
    · iterate 3 (refine zv_step (bX0_bareWays 2) rfl rfl trivial ?_)
      refine zv_ifb (fun h3 => ?_) (fun h3 => ?_)
      · obtain ⟨f, t, ef, et, hf, hft, ht⟩ := keR_span hab hb hk9 h3
        iterate 5 (refine zv_step (bX0_bareWays 2) rfl rfl trivial ?_)
        refine zv_S2 (bX0_bareWays 2) rfl rfl rfl rfl ⟨rfl, rfl, rfl⟩ ⟨by decide, by decide⟩ ⟨Nat.zero_le _, Nat.zero_le _⟩ (hFrom _ _ _) ?_
        rintro _ _ ⟨rfl, rfl⟩
        refine zv_aald (bX0_bareWays 2) rfl (Or.inr rfl) rfl (show vp_in (pfW k9 (nI a)) 21 by rw [ef]; exact vp_in_nI (by omega) (by decide)) (show ([some 34, some 35, some 36, some 37, some 38, some 39, some 40, some 41, some 42, some 43, some 44, some 45, some 46, some 47, some 48, some 49, some 50, some 51, some 52, some 53, some 54] : List (Option Nat)).getD (pfW k9 (nI a)).toNatClampNeg none = some (34 + (f)) by rw [ef, nI_clamp (by omega)]; exact dLs (by omega)) ?_
        iterate 2 (refine zv_step (bX0_bareWays 2) rfl rfl trivial ?_)
        refine zv_S2 (bX0_bareWays 2) rfl rfl rfl rfl ⟨rfl, rfl, rfl⟩ ⟨by decide, by decide⟩ ⟨Nat.zero_le _, Nat.zero_le _⟩ (hTo _ _ _) ?_
        rintro _ _ ⟨rfl, rfl⟩
        refine zv_lald (bX0_bareWays 2) rfl (wY O P Y g (by omega)) (show vp_in (ptoW k9 (nI b)) 21 by rw [et]; exact vp_in_nI (by omega) (by decide)) ?_
        iterate 1 (refine zv_step (bX0_bareWays 2) rfl rfl trivial ?_)
        exact zv_lret (bX0_bareWays 2) rfl rfl (Nat.zero_le _) (Nat.zero_le _) ⟨rfl, _, rfl, fun hw => by show inB (s + Y (34 + f) (ptoW k9 (nI b)).toNatClampNeg) _; rw [et, nI_clamp (by omega)]; exact hs_w (by omega) (by omega) (e := t - f - 1) (by omega) (hs hw) (hw f t hft (by omega))⟩
      · iterate 4 (refine zv_step (bX0_bareWays 2) rfl rfl trivial ?_)
        exact zv_lret (bX0_bareWays 2) rfl rfl (Nat.zero_le _) (Nat.zero_le _) ⟨rfl, _, rfl, fun hw => hs_1 (by omega) (hs hw)⟩
    · iterate 1 (refine zv_step (bX0_bareWays 2) rfl rfl trivial ?_)
      exact zv_lret (bX0_bareWays 2) rfl rfl (Nat.zero_le _) (Nat.zero_le _) ⟨rfl, _, rfl, fun hw => hs_hb (hs hw)⟩
set_option maxHeartbeats 1000000 in
set_option maxRecDepth 20000 in
theorem hBareL (O : Nat → Int32) (P : Nat → Nat → Int32) (Y : Nat → Nat → Int64) (g : Nat → zC) {a b : Nat} (hab : a < b) (hb : b ≤ 20) (k : Int32) {n0 : Nat} : ∀ (c m : Nat), b - m ≤ c → a < m → m ≤ b → (m = a + 1 ∨ m ≤ b - 1) → ∀ {x6 : Int32} {s : Int64}, x6 = nI m → (wyI Y → inB s ((m - a - 1) * 8 ^ (b - a - 3))) → zV (zMo 2 zX0_bareWays) false n0 0 0 19 [(6, .int x6), (4, .long s), (0, .ref 31), (1, .int (nI a)), (2, .int (nI b)), (3, .int k)] [] (wX O P Y g) (fun r w' => w' = wX O P Y g ∧ ∃ v : Int64, r = some (.long v) ∧ (wyI Y → inB v (hbB (b - a)))) := by
  intro c
  induction c with
  | zero =>
    intro m hc hm hmb hme x6 s e6 hs
    subst e6
    iterate 5 (refine zv_step (bX0_bareWays 2) rfl rfl trivial ?_)
    refine zv_ift (show nI b - Int32.ofInt 1 ≤ nI m by rw [sub_1 (by omega)]; exact nI_le (by omega) (by omega)) ?_
    exact hBareT O P Y g hab hb k _ _ (fun hw => hs_exit hb hm hme (hs hw))
  | succ c ih =>
    intro m hc hm hmb hme x6 s e6 hs
    subst e6
    iterate 5 (refine zv_step (bX0_bareWays 2) rfl rfl trivial ?_)
    refine zv_ifb (fun hq => ?_) (fun hq => ?_)
    · exact hBareT O P Y g hab hb k _ _ (fun hw => hs_exit hb hm hme (hs hw))
    · have hq : ¬ (nI b - Int32.ofInt 1 ≤ nI m) := hq
      rw [sub_1 (by omega), nI_leI (by omega) (by omega)] at hq
      iterate 3 (refine zv_step (bX0_bareWays 2) rfl rfl trivial ?_)
      refine zv_iale (bX0_bareWays 2) rfl rfl (show vp_in (nI m) 20 by exact vp_in_nI (by omega) (by decide)) (show P 32 (nI m).toNatClampNeg = P 32 (m) by rw [nI_clamp (by omega)]) ?_
      iterate 4 (refine zv_step (bX0_bareWays 2) rfl rfl trivial ?_)
      refine zv_S1 (bX0_bareWays 2) rfl rfl rfl rfl ⟨rfl, rfl, rfl⟩ ⟨by decide, by decide⟩ ⟨Nat.zero_le _, Nat.zero_le _⟩ (hX1_isPair _ _) ?_
      rintro _ _ ⟨rfl, ⟨hp, rfl⟩ | ⟨hp, rfl⟩⟩
      · iterate 1 (refine zv_step (bX0_bareWays 2) rfl rfl trivial ?_)
        refine zv_iff (by decide) ?_
        iterate 2 (refine zv_step (bX0_bareWays 2) rfl rfl trivial ?_)
        refine zv_S2 (bX0_bareWays 2) rfl rfl rfl rfl ⟨rfl, rfl, rfl⟩ ⟨by decide, by decide⟩ ⟨Nat.zero_le _, Nat.zero_le _⟩ (pHasBitW _ _ _) ?_
        rintro _ _ ⟨rfl, rfl⟩
        iterate 1 (refine zv_step (bX0_bareWays 2) rfl rfl trivial ?_)
        refine zv_ifb (fun hz => ?_) (fun hz => ?_)
        · iterate 2 (refine zv_step (bX0_bareWays 2) rfl rfl trivial ?_)
          refine zv_locals (l := [(6, .int (nI m + Int32.ofInt 1)), (7, .int (P 32 m - c8 18)), (4, .long s), (0, .ref 31), (1, .int (nI a)), (2, .int (nI b)), (3, .int k)]) (l' := [(6, .int (nI m + Int32.ofInt 1)), (4, .long (s)), (0, .ref 31), (1, .int (nI a)), (2, .int (nI b)), (3, .int k)]) ?_ (ih (m + 1) (by omega) (by omega) (by omega) (Or.inr (by omega)) (nI_1 m) (fun hw => inB_le (hs hw) (Nat.mul_le_mul_right _ (by omega))))
          simp
        · iterate 4 (refine zv_step (bX0_bareWays 2) rfl rfl trivial ?_)
          refine zv_aald (bX0_bareWays 2) rfl (Or.inr rfl) rfl (show vp_in (nI a) 21 by exact vp_in_nI (by omega) (by decide)) (show ([some 34, some 35, some 36, some 37, some 38, some 39, some 40, some 41, some 42, some 43, some 44, some 45, some 46, some 47, some 48, some 49, some 50, some 51, some 52, some 53, some 54] : List (Option Nat)).getD (nI a).toNatClampNeg none = some (34 + (a)) by rw [nI_clamp (by omega)]; exact dLs (by omega)) ?_
          iterate 1 (refine zv_step (bX0_bareWays 2) rfl rfl trivial ?_)
          refine zv_lald (bX0_bareWays 2) rfl (wY O P Y g (by omega)) (show vp_in (nI m) 21 by exact vp_in_nI (by omega) (by decide)) ?_
          iterate 5 (refine zv_step (bX0_bareWays 2) rfl rfl trivial ?_)
          refine zv_aald (bX0_bareWays 2) rfl (Or.inr rfl) rfl (show vp_in (nI m + Int32.ofInt 1) 21 by rw [show nI m + Int32.ofInt 1 = nI (m + 1) from nI_1 m]; exact vp_in_nI (by omega) (by decide)) (show ([some 34, some 35, some 36, some 37, some 38, some 39, some 40, some 41, some 42, some 43, some 44, some 45, some 46, some 47, some 48, some 49, some 50, some 51, some 52, some 53, some 54] : List (Option Nat)).getD (nI m + Int32.ofInt 1).toNatClampNeg none = some (34 + (m + 1)) by rw [show nI m + Int32.ofInt 1 = nI (m + 1) from nI_1 m, nI_clamp (by omega)]; exact dLs (by omega)) ?_
          iterate 1 (refine zv_step (bX0_bareWays 2) rfl rfl trivial ?_)
          refine zv_lald (bX0_bareWays 2) rfl (wY O P Y g (by omega)) (show vp_in (nI b) 21 by exact vp_in_nI (by omega) (by decide)) ?_
          iterate 5 (refine zv_step (bX0_bareWays 2) rfl rfl trivial ?_)
          refine zv_locals (l := [(6, .int (nI m + Int32.ofInt 1)), (4, .long (s + Y (34 + a) (nI m).toNatClampNeg * Y (34 + (m + 1)) (nI b).toNatClampNeg)), (7, .int (P 32 m - c8 18)), (0, .ref 31), (1, .int (nI a)), (2, .int (nI b)), (3, .int k)]) (l' := [(6, .int (nI m + Int32.ofInt 1)), (4, .long (s + Y (34 + a) (nI m).toNatClampNeg * Y (34 + (m + 1)) (nI b).toNatClampNeg)), (0, .ref 31), (1, .int (nI a)), (2, .int (nI b)), (3, .int k)]) ?_ (ih (m + 1) (by omega) (by omega) (by omega) (Or.inr (by omega)) (nI_1 m) (fun hw => by rw [nI_clamp (by omega), nI_clamp (by omega)]; exact hs_step hb hm (by omega) (hs hw) (hw a m hm (by omega)) (hw (m + 1) b (by omega) hb)))
          simp
      · iterate 1 (refine zv_step (bX0_bareWays 2) rfl rfl trivial ?_)
        refine zv_ift (by decide) ?_
        iterate 2 (refine zv_step (bX0_bareWays 2) rfl rfl trivial ?_)
        refine zv_locals (l := [(6, .int (nI m + Int32.ofInt 1)), (7, .int (P 32 m - c8 18)), (4, .long s), (0, .ref 31), (1, .int (nI a)), (2, .int (nI b)), (3, .int k)]) (l' := [(6, .int (nI m + Int32.ofInt 1)), (4, .long (s)), (0, .ref 31), (1, .int (nI a)), (2, .int (nI b)), (3, .int k)]) ?_ (ih (m + 1) (by omega) (by omega) (by omega) (Or.inr (by omega)) (nI_1 m) (fun hw => inB_le (hs hw) (Nat.mul_le_mul_right _ (by omega))))
        simp
set_option maxHeartbeats 1000000 in
set_option maxRecDepth 20000 in
theorem hBare (O : Nat → Int32) (P : Nat → Nat → Int32) (Y : Nat → Nat → Int64) (g : Nat → zC) {a b : Nat} (hab : a < b) (hb : b ≤ 20) {x y : Int32} (ex : x = nI a) (ey : y = nI b) (k : Int32) : zK 2 zX0_bareWays [.ref 31, .int x, .int y, .int k] (wX O P Y g) (fun r w' => w' = wX O P Y g ∧ ∃ v : Int64, r = some (.long v) ∧ (wyI Y → inB v (hbB (b - a)))) := by
  subst ex ey
  refine zK_of qX0_bareWays (by decide +kernel) rfl ?_
  iterate 3 (refine zv_step (bX0_bareWays 2) rfl rfl trivial ?_)
  refine zv_iff (nI_ge (by omega) (by omega)) ?_
  iterate 2 (refine zv_step (bX0_bareWays 2) rfl rfl trivial ?_)
  refine zv_ifb (fun h1 => ?_) (fun h1 => ?_)
  · iterate 6 (refine zv_step (bX0_bareWays 2) rfl rfl trivial ?_)
    exact hBareL O P Y g hab hb k (b - (a + 1)) (a + 1) (by omega) (by omega) (by omega) (Or.inl rfl) (nI_1 a) (fun _ => inB_0 _)
  · iterate 1 (refine zv_step (bX0_bareWays 2) rfl rfl trivial ?_)
    exact zv_lret (bX0_bareWays 2) rfl rfl (Nat.zero_le _) (Nat.zero_le _) ⟨rfl, _, rfl, fun _ => inB_0 _⟩
set_option maxHeartbeats 1000000 in
set_option maxRecDepth 20000 in
theorem hWays (O : Nat → Int32) (P : Nat → Nat → Int32) (Y : Nat → Nat → Int64) (g : Nat → zC) {a b : Nat} (hab : a < b) (hb : b ≤ 20) {x y : Int32} (ex : x = nI a) (ey : y = nI b) (k : Int32) : zK 3 zX0_waysOf [.ref 31, .int x, .int y, .int k] (wX O P Y g) (fun r w' => w' = wX O P Y g ∧ ∃ v : Int64, r = some (.long v) ∧ (wyI Y → inB v (8 ^ (b - a - 1)))) := by
  subst ex ey
  refine zK_of qX0_waysOf (by decide +kernel) rfl ?_
  iterate 7 (refine zv_step (bX0_waysOf 3) rfl rfl trivial ?_)
  refine zv_V3 (bX0_waysOf 3) rfl rfl rfl rfl rfl rfl rfl ⟨rfl, rfl, rfl⟩ ⟨by decide, by decide⟩ ⟨Nat.zero_le _, Nat.zero_le _⟩ (hBare O P Y g hab hb rfl rfl _) ?_
  rintro _ _ ⟨rfl, v, rfl, hvb⟩
  iterate 4 (refine zv_step (bX0_waysOf 3) rfl rfl trivial ?_)
  refine zv_V2 (bX0_waysOf 3) rfl rfl rfl rfl rfl rfl rfl ⟨rfl, rfl, rfl⟩ ⟨by decide, by decide⟩ ⟨Nat.zero_le _, Nat.zero_le _⟩ (hBr O P Y g hab hb) ?_
  rintro _ _ ⟨rfl, ⟨hh, rfl⟩ | ⟨hh, rfl⟩⟩
  · iterate 1 (refine zv_step (bX0_waysOf 3) rfl rfl trivial ?_)
    refine zv_iff (by decide) ?_
    have h3 := hh.1
    iterate 12 (refine zv_step (bX0_waysOf 3) rfl rfl trivial ?_)
    refine zv_V3 (bX0_waysOf 3) rfl rfl rfl rfl rfl rfl rfl ⟨rfl, rfl, rfl⟩ ⟨by decide, by decide⟩ ⟨Nat.zero_le _, Nat.zero_le _⟩ (hBare O P Y g (a := a + 1) (b := b - 1) (by omega) (by omega) (nI_1 a) (sub_1 (by omega)) _) ?_
    rintro _ _ ⟨rfl, v2, rfl, hvc⟩
    iterate 2 (refine zv_step (bX0_waysOf 3) rfl rfl trivial ?_)
    exact zv_lret (bX0_waysOf 3) rfl rfl (Nat.zero_le _) (Nat.zero_le _) ⟨rfl, _, rfl, fun hw => hb_two (d := b - a) (by omega) (by omega) (hvb hw) (by have := hvc hw; rwa [show b - 1 - (a + 1) = b - a - 2 by omega] at this)⟩
  · iterate 1 (refine zv_step (bX0_waysOf 3) rfl rfl trivial ?_)
    refine zv_ift (by decide) ?_
    iterate 1 (refine zv_step (bX0_waysOf 3) rfl rfl trivial ?_)
    exact zv_lret (bX0_waysOf 3) rfl rfl (Nat.zero_le _) (Nat.zero_le _) ⟨rfl, _, rfl, fun hw => hb_one (by omega) (hvb hw)⟩
