section ZLA
variable {M : zM} {al : Bool} {n0 kc ks pc nxt a b : Nat} {c0 : Int} {l : zL} {st rest : List Value} {w : zW} {Q : Option Value → zW → Prop} {tb : List zE}
theorem zv_lald (ok : zTb M tb) (hlook : zlook tb pc = some (.laload, nxt, a, b, c0)) {k n : Nat} {f : Nat → Int64} {i : Int32} (hw : w[k]? = some (zJ n f)) (hi : vp_in i n) (kk : zV M al n0 kc ks nxt l (.long (f i.toNatClampNeg) :: st) w Q) : zV M al n0 kc ks pc l (.int i :: .ref k :: st) w Q := by
  refine zv_step ok hlook (P := vp_in i n) (pc' := nxt) (l' := l) (st' := .long (f i.toNatClampNeg) :: st) (w' := w) ?_ hi kk
  simp only [zstep, hw]
theorem zv_last (ok : zTb M tb) (hlook : zlook tb pc = some (.lastore, nxt, a, b, c0)) {k n : Nat} {f : Nat → Int64} {i : Int32} {x : Int64} (hw : w[k]? = some (zJ n f)) (hi : vp_in i n) (kk : zV M al n0 kc ks nxt l st (w.set k (zJ n (vp_updL f i.toNatClampNeg x))) Q) : zV M al n0 kc ks pc l (.long x :: .int i :: .ref k :: st) w Q := by
  refine zv_step ok hlook (P := vp_in i n) (pc' := nxt) (l' := l) (st' := st) (w' := w.set k (zJ n (vp_updL f i.toNatClampNeg x))) ?_ hi kk
  simp only [zstep, hw]
end ZLA
def updJ (A : Nat → Nat → Int64) (k : Nat) (g : Nat → Int64) : Nat → Nat → Int64 := fun j => if j = k then g else A j
set_option maxRecDepth 20000 in
theorem wY (O : Nat → Int32) (P : Nat → Nat → Int32) (Y : Nat → Nat → Int64) (g : Nat → zC) : ∀ {i : Nat}, i < 21 → (wX O P Y g)[34 + i]? = some (zJ 21 (Y (34 + i))) := by
  intro i hi
  match i, hi with
  | 0, _ => rfl
  | 1, _ => rfl
  | 2, _ => rfl
  | 3, _ => rfl
  | 4, _ => rfl
  | 5, _ => rfl
  | 6, _ => rfl
  | 7, _ => rfl
  | 8, _ => rfl
  | 9, _ => rfl
  | 10, _ => rfl
  | 11, _ => rfl
  | 12, _ => rfl
  | 13, _ => rfl
  | 14, _ => rfl
  | 15, _ => rfl
  | 16, _ => rfl
  | 17, _ => rfl
  | 18, _ => rfl
  | 19, _ => rfl
  | 20, _ => rfl
  | n + 21, h => exact absurd h (by omega)
set_option maxRecDepth 20000 in
theorem wYset (O : Nat → Int32) (P : Nat → Nat → Int32) (Y : Nat → Nat → Int64) (g : Nat → zC) (h : Nat → Int64) : ∀ {i : Nat}, i < 21 → (wX O P Y g).set (34 + i) (zJ 21 h) = wX O P (updJ Y (34 + i) h) g := by
  intro i hi
  match i, hi with
  | 0, _ => rfl
  | 1, _ => rfl
  | 2, _ => rfl
  | 3, _ => rfl
  | 4, _ => rfl
  | 5, _ => rfl
  | 6, _ => rfl
  | 7, _ => rfl
  | 8, _ => rfl
  | 9, _ => rfl
  | 10, _ => rfl
  | 11, _ => rfl
  | 12, _ => rfl
  | 13, _ => rfl
  | 14, _ => rfl
  | 15, _ => rfl
  | 16, _ => rfl
  | 17, _ => rfl
  | 18, _ => rfl
  | 19, _ => rfl
  | 20, _ => rfl
  | n + 21, h => exact absurd h (by omega)
theorem dLs : ∀ {i : Nat}, i < 21 → ([some 34, some 35, some 36, some 37, some 38, some 39, some 40, some 41, some 42, some 43, some 44, some 45, some 46, some 47, some 48, some 49, some 50, some 51, some 52, some 53, some 54] : List (Option Nat)).getD i none = some (34 + i) := by
  intro i hi
  match i, hi with
  | 0, _ => rfl
  | 1, _ => rfl
  | 2, _ => rfl
  | 3, _ => rfl
  | 4, _ => rfl
  | 5, _ => rfl
  | 6, _ => rfl
  | 7, _ => rfl
  | 8, _ => rfl
  | 9, _ => rfl
  | 10, _ => rfl
  | 11, _ => rfl
  | 12, _ => rfl
  | 13, _ => rfl
  | 14, _ => rfl
  | 15, _ => rfl
  | 16, _ => rfl
  | 17, _ => rfl
  | 18, _ => rfl
  | 19, _ => rfl
  | 20, _ => rfl
  | n + 21, h => exact absurd h (by omega)
/-- what a span of d words may be by its ends -/
def keR (d : Nat) (k : Int32) : Prop := k = Int32.ofInt (-1) ∨ k = Int32.ofInt 0 ∨ k = Int32.ofInt 1 ∨ (k = c8 7 ∧ 1 < d) ∨ (k = c8 8 ∧ 2 < d) ∨ (k = c8 9 ∧ 2 < d)
theorem nI_2 (a : Nat) : nI a + Int32.ofInt 2 = nI (a + 2) := by
  rw [show Int32.ofInt 2 = Int32.ofInt 1 + Int32.ofInt 1 from rfl, ← Int32.add_assoc]
  exact (congrArg (fun x => x + Int32.ofInt 1) (nI_1 a)).trans (nI_1 (a + 1))
theorem keR_span {a b : Nat} (hab : a < b) (hb : b ≤ 20) {k : Int32} (hk : keR (b - a) k) (h1 : Int32.ofInt 1 < k) : ∃ f t : Nat, pfW k (nI a) = nI f ∧ ptoW k (nI b) = nI t ∧ a < f ∧ f < t ∧ t ≤ b := by
  rcases hk with h | h | h | ⟨h, hd⟩ | ⟨h, hd⟩ | ⟨h, hd⟩
  · subst h; exact absurd h1 (by decide)
  · subst h; exact absurd h1 (by decide)
  · subst h; exact absurd h1 (by decide)
  · subst h; exact ⟨a + 1, b, (if_neg (by decide)).trans (nI_1 a), if_neg (by decide), by omega, by omega, by omega⟩
  · subst h; exact ⟨a + 1, b - 1, (if_neg (by decide)).trans (nI_1 a), (if_pos rfl).trans (sub_1 (by omega)), by omega, by omega, by omega⟩
  · subst h; exact ⟨a + 2, b, (if_pos rfl).trans (nI_2 a), if_neg (by decide), by omega, by omega, by omega⟩
set_option maxHeartbeats 1000000 in
set_option maxRecDepth 20000 in
theorem hKe (O : Nat → Int32) (P : Nat → Nat → Int32) (Y : Nat → Nat → Int64) (g : Nat → zC) {a b : Nat} (hab : a < b) (hb : b ≤ 20) : zK 1 zX0_kindByEnds [.ref 31, .int (nI a), .int (nI b)] (wX O P Y g) (fun r w' => w' = wX O P Y g ∧ ∃ k, r = some (.int k) ∧ keR (b - a) k) := by
  refine zK_of qX0_kindByEnds (by decide +kernel) rfl ?_
  iterate 3 (refine zv_step (bX0_kindByEnds 1) rfl rfl trivial ?_)
  refine zv_iale (bX0_kindByEnds 1) rfl rfl (show vp_in (nI a) 20 by exact vp_in_nI (by omega) (by decide)) (show P 32 (nI a).toNatClampNeg = P 32 (a) by rw [nI_clamp (by omega)]) ?_
  iterate 4 (refine zv_step (bX0_kindByEnds 1) rfl rfl trivial ?_)
  refine zv_ifb (fun h0 => ?_) (fun h0 => ?_)
  · iterate 3 (refine zv_step (bX0_kindByEnds 1) rfl rfl trivial ?_)
    refine zv_ifb (fun h1 => ?_) (fun h1 => ?_)
    · iterate 3 (refine zv_step (bX0_kindByEnds 1) rfl rfl trivial ?_)
      refine zv_ifb (fun h2 => ?_) (fun h2 => ?_)
      · iterate 3 (refine zv_step (bX0_kindByEnds 1) rfl rfl trivial ?_)
        refine zv_V2 (bX0_kindByEnds 1) rfl rfl rfl rfl rfl rfl rfl ⟨rfl, rfl, rfl⟩ ⟨by decide, by decide⟩ ⟨Nat.zero_le _, Nat.zero_le _⟩ (hNum O P Y g hab hb) ?_
        rintro _ _ ⟨rfl, rfl⟩
        iterate 2 (refine zv_step (bX0_kindByEnds 1) rfl rfl trivial ?_)
        refine zv_ifb (fun h3 => ?_) (fun h3 => ?_)
        · iterate 1 (refine zv_step (bX0_kindByEnds 1) rfl rfl trivial ?_)
          exact zv_iret (bX0_kindByEnds 1) rfl (Or.inl rfl) (Nat.zero_le _) (Nat.zero_le _) ⟨rfl, _, rfl, Or.inr (Or.inr (Or.inl rfl))⟩
        · iterate 2 (refine zv_step (bX0_kindByEnds 1) rfl rfl trivial ?_)
          exact zv_iret (bX0_kindByEnds 1) rfl (Or.inl rfl) (Nat.zero_le _) (Nat.zero_le _) ⟨rfl, _, rfl, Or.inl rfl⟩
      · iterate 5 (refine zv_step (bX0_kindByEnds 1) rfl rfl trivial ?_)
        refine zv_ifb (fun hc => ?_) (fun hc => ?_)
        · have hc : nI b - nI a ≤ Int32.ofInt 2 := hc
          rw [show Int32.ofInt 2 = nI 2 from rfl, sub_le (by omega) (by omega) (by decide)] at hc
          iterate 1 (refine zv_step (bX0_kindByEnds 1) rfl rfl trivial ?_)
          exact zv_iret (bX0_kindByEnds 1) rfl (Or.inl rfl) (Nat.zero_le _) (Nat.zero_le _) ⟨rfl, _, rfl, Or.inl rfl⟩
        · have hc : ¬ nI b - nI a ≤ Int32.ofInt 2 := hc
          rw [show Int32.ofInt 2 = nI 2 from rfl, sub_le (by omega) (by omega) (by decide)] at hc
          iterate 5 (refine zv_step (bX0_kindByEnds 1) rfl rfl trivial ?_)
          refine zv_iale (bX0_kindByEnds 1) rfl rfl (show vp_in (nI b - Int32.ofInt 1) 20 by rw [sub_1 (by omega)]; exact vp_in_nI (by omega) (by decide)) (show P 32 (nI b - Int32.ofInt 1).toNatClampNeg = P 32 (b - 1) by rw [sub_1 (by omega), nI_clamp (by omega)]) ?_
          iterate 2 (refine zv_step (bX0_kindByEnds 1) rfl rfl trivial ?_)
          refine zv_ifb (fun h4 => ?_) (fun h4 => ?_)
          · iterate 1 (refine zv_step (bX0_kindByEnds 1) rfl rfl trivial ?_)
            exact zv_iret (bX0_kindByEnds 1) rfl (Or.inl rfl) (Nat.zero_le _) (Nat.zero_le _) ⟨rfl, _, rfl, Or.inl rfl⟩
          · iterate 2 (refine zv_step (bX0_kindByEnds 1) rfl rfl trivial ?_)
            exact zv_iret (bX0_kindByEnds 1) rfl (Or.inl rfl) (Nat.zero_le _) (Nat.zero_le _) ⟨rfl, _, rfl, Or.inr (Or.inr (Or.inr (Or.inr (Or.inl ⟨rfl, by omega⟩))))⟩
    · iterate 5 (refine zv_step (bX0_kindByEnds 1) rfl rfl trivial ?_)
      refine zv_ifb (fun hc => ?_) (fun hc => ?_)
      · have hc : nI b - nI a ≤ Int32.ofInt 1 := hc
        rw [show Int32.ofInt 1 = nI 1 from rfl, sub_le (by omega) (by omega) (by decide)] at hc
        iterate 1 (refine zv_step (bX0_kindByEnds 1) rfl rfl trivial ?_)
        exact zv_iret (bX0_kindByEnds 1) rfl (Or.inl rfl) (Nat.zero_le _) (Nat.zero_le _) ⟨rfl, _, rfl, Or.inl rfl⟩
      · have hc : ¬ nI b - nI a ≤ Int32.ofInt 1 := hc
        rw [show Int32.ofInt 1 = nI 1 from rfl, sub_le (by omega) (by omega) (by decide)] at hc
        iterate 2 (refine zv_step (bX0_kindByEnds 1) rfl rfl trivial ?_)
        exact zv_iret (bX0_kindByEnds 1) rfl (Or.inl rfl) (Nat.zero_le _) (Nat.zero_le _) ⟨rfl, _, rfl, Or.inr (Or.inr (Or.inr (Or.inl ⟨rfl, by omega⟩)))⟩
  · iterate 3 (refine zv_step (bX0_kindByEnds 1) rfl rfl trivial ?_)
    refine zv_S2 (bX0_kindByEnds 1) rfl rfl rfl rfl ⟨rfl, rfl, rfl⟩ ⟨by decide, by decide⟩ ⟨Nat.zero_le _, Nat.zero_le _⟩ (pHasBitW _ _ _) ?_
    rintro _ _ ⟨rfl, rfl⟩
    iterate 3 (refine zv_step (bX0_kindByEnds 1) rfl rfl trivial ?_)
    refine zv_ifb (fun h5 => ?_) (fun h5 => ?_)
    · iterate 5 (refine zv_step (bX0_kindByEnds 1) rfl rfl trivial ?_)
      refine zv_ifb (fun h6 => ?_) (fun h6 => ?_)
      · iterate 1 (refine zv_step (bX0_kindByEnds 1) rfl rfl trivial ?_)
        exact zv_iret (bX0_kindByEnds 1) rfl (Or.inl rfl) (Nat.zero_le _) (Nat.zero_le _) ⟨rfl, _, rfl, Or.inl rfl⟩
      · iterate 2 (refine zv_step (bX0_kindByEnds 1) rfl rfl trivial ?_)
        exact zv_iret (bX0_kindByEnds 1) rfl (Or.inl rfl) (Nat.zero_le _) (Nat.zero_le _) ⟨rfl, _, rfl, Or.inr (Or.inl rfl)⟩
    · iterate 5 (refine zv_step (bX0_kindByEnds 1) rfl rfl trivial ?_)
      refine zv_ifb (fun hc => ?_) (fun hc => ?_)
      · have hc : nI b - nI a ≤ Int32.ofInt 2 := hc
        rw [show Int32.ofInt 2 = nI 2 from rfl, sub_le (by omega) (by omega) (by decide)] at hc
        iterate 1 (refine zv_step (bX0_kindByEnds 1) rfl rfl trivial ?_)
        exact zv_iret (bX0_kindByEnds 1) rfl (Or.inl rfl) (Nat.zero_le _) (Nat.zero_le _) ⟨rfl, _, rfl, Or.inl rfl⟩
      · have hc : ¬ nI b - nI a ≤ Int32.ofInt 2 := hc
        rw [show Int32.ofInt 2 = nI 2 from rfl, sub_le (by omega) (by omega) (by decide)] at hc
        iterate 5 (refine zv_step (bX0_kindByEnds 1) rfl rfl trivial ?_)
        refine zv_iale (bX0_kindByEnds 1) rfl rfl (show vp_in (nI a + Int32.ofInt 1) 20 by rw [show nI a + Int32.ofInt 1 = nI (a + 1) from nI_1 a]; exact vp_in_nI (by omega) (by decide)) (show P 32 (nI a + Int32.ofInt 1).toNatClampNeg = P 32 (a + 1) by rw [show nI a + Int32.ofInt 1 = nI (a + 1) from nI_1 a, nI_clamp (by omega)]) ?_
        iterate 2 (refine zv_step (bX0_kindByEnds 1) rfl rfl trivial ?_)
        refine zv_ifb (fun h7 => ?_) (fun h7 => ?_)
        · iterate 1 (refine zv_step (bX0_kindByEnds 1) rfl rfl trivial ?_)
          exact zv_iret (bX0_kindByEnds 1) rfl (Or.inl rfl) (Nat.zero_le _) (Nat.zero_le _) ⟨rfl, _, rfl, Or.inl rfl⟩
        · iterate 2 (refine zv_step (bX0_kindByEnds 1) rfl rfl trivial ?_)
          exact zv_iret (bX0_kindByEnds 1) rfl (Or.inl rfl) (Nat.zero_le _) (Nat.zero_le _) ⟨rfl, _, rfl, Or.inr (Or.inr (Or.inr (Or.inr (Or.inr ⟨rfl, by omega⟩))))⟩
set_option maxHeartbeats 1000000 in
set_option maxRecDepth 20000 in
theorem hBareT (O : Nat → Int32) (P : Nat → Nat → Int32) (Y : Nat → Nat → Int64) (g : Nat → zC) {a b : Nat} (hab : a < b) (hb : b ≤ 20) (k x6 : Int32) (s : Int64) {n0 : Nat} : zV (zMo 2 zX0_bareWays) false n0 0 0 88 [(6, .int x6), (4, .long s), (0, .ref 31), (1, .int (nI a)), (2, .int (nI b)), (3, .int k)] [] (wX O P Y g) (fun r w' => w' = wX O P Y g ∧ ∃ v : Int64, r = some (.long v)) := by
  iterate 3 (refine zv_step (bX0_bareWays 2) rfl rfl trivial ?_)
  refine zv_V2 (bX0_bareWays 2) rfl rfl rfl rfl rfl rfl rfl ⟨rfl, rfl, rfl⟩ ⟨by decide, by decide⟩ ⟨Nat.zero_le _, Nat.zero_le _⟩ (hKe O P Y g hab hb) ?_
  rintro _ _ ⟨rfl, k9, rfl, hk9⟩
  iterate 4 (refine zv_step (bX0_bareWays 2) rfl rfl trivial ?_)
  refine zv_ifb (fun h1 => ?_) (fun h1 => ?_)
  · iterate 1 (refine zv_step (bX0_bareWays 2) rfl rfl trivial ?_)
    exact zv_lret (bX0_bareWays 2) rfl rfl (Nat.zero_le _) (Nat.zero_le _) ⟨rfl, _, rfl⟩
  · iterate 2 (refine zv_step (bX0_bareWays 2) rfl rfl trivial ?_)
    refine zv_S2 (bX0_bareWays 2) rfl rfl rfl rfl ⟨rfl, rfl, rfl⟩ ⟨by decide, by decide⟩ ⟨Nat.zero_le _, Nat.zero_le _⟩ (pHasBitW _ _ _) ?_
    rintro _ _ ⟨rfl, rfl⟩
    iterate 1 (refine zv_step (bX0_bareWays 2) rfl rfl trivial ?_)
    refine zv_ifb (fun h2 => ?_) (fun h2 => ?_)
    · iterate 3 (refine zv_step (bX0_bareWays 2) rfl rfl trivial ?_)
      refine zv_ifb (fun h3 => ?_) (fun h3 => ?_)
      · obtain ⟨f, t, ef, et, hf, hft, ht⟩ := keR_span hab hb hk9 h3
        iterate 5 (refine zv_step (bX0_bareWays 2) rfl rfl trivial ?_)
        refine zv_S2 (bX0_bareWays 2) rfl rfl rfl rfl ⟨rfl, rfl, rfl⟩ ⟨by decide, by decide⟩ ⟨Nat.zero_le _, Nat.zero_le _⟩ (hFrom _ _ _) ?_
        rintro _ _ ⟨rfl, rfl⟩
        refine zv_aald (bX0_bareWays 2) rfl (Or.inr rfl) rfl (show vp_in (pfW k9 (nI a)) 21 by rw [ef]; exact vp_in_nI (by omega) (by decide)) (show ([some 34, some 35, some 36, some 37, some 38, some 39, some 40, some 41, some 42, some 43, some 44, some 45, some 46, some 47, some 48, some 49, some 50, some 51, some 52, some 53, some 54] : List (Option Nat)).getD (pfW k9 (nI a)).toNatClampNeg none = some (34 + (f)) by rw [ef, nI_clamp (by omega)]; exact dLs (by omega)) ?_
        iterate 2 (refine zv_step (bX0_bareWays 2) rfl rfl trivial ?_)
        refine zv_S2 (bX0_bareWays 2) rfl rfl rfl rfl ⟨rfl, rfl, rfl⟩ ⟨by decide, by decide⟩ ⟨Nat.zero_le _, Nat.zero_le _⟩ (hTo _ _ _) ?_
        rintro _ _ ⟨rfl, rfl⟩
        refine zv_lald (bX0_bareWays 2) rfl (wY O P Y g (by omega)) (show vp_in (ptoW k9 (nI b)) 21 by rw [et]; exact vp_in_nI (by omega) (by decide)) ?_
        iterate 1 (refine zv_step (bX0_bareWays 2) rfl rfl trivial ?_)
        exact zv_lret (bX0_bareWays 2) rfl rfl (Nat.zero_le _) (Nat.zero_le _) ⟨rfl, _, rfl⟩
      · iterate 4 (refine zv_step (bX0_bareWays 2) rfl rfl trivial ?_)
        exact zv_lret (bX0_bareWays 2) rfl rfl (Nat.zero_le _) (Nat.zero_le _) ⟨rfl, _, rfl⟩
    · iterate 1 (refine zv_step (bX0_bareWays 2) rfl rfl trivial ?_)
      exact zv_lret (bX0_bareWays 2) rfl rfl (Nat.zero_le _) (Nat.zero_le _) ⟨rfl, _, rfl⟩
set_option maxHeartbeats 1000000 in
set_option maxRecDepth 20000 in
theorem hBareL (O : Nat → Int32) (P : Nat → Nat → Int32) (Y : Nat → Nat → Int64) (g : Nat → zC) {a b : Nat} (hab : a < b) (hb : b ≤ 20) (k : Int32) {n0 : Nat} : ∀ (c m : Nat), b - m ≤ c → a < m → m ≤ b → ∀ {x6 : Int32} {s : Int64}, x6 = nI m → zV (zMo 2 zX0_bareWays) false n0 0 0 19 [(6, .int x6), (4, .long s), (0, .ref 31), (1, .int (nI a)), (2, .int (nI b)), (3, .int k)] [] (wX O P Y g) (fun r w' => w' = wX O P Y g ∧ ∃ v : Int64, r = some (.long v)) := by
  intro c
  induction c with
  | zero =>
    intro m hc hm hmb x6 s e6
    subst e6
    iterate 5 (refine zv_step (bX0_bareWays 2) rfl rfl trivial ?_)
    refine zv_ift (show nI b - Int32.ofInt 1 ≤ nI m by rw [sub_1 (by omega)]; exact nI_le (by omega) (by omega)) ?_
    exact hBareT O P Y g hab hb k _ _
  | succ c ih =>
    intro m hc hm hmb x6 s e6
    subst e6
    iterate 5 (refine zv_step (bX0_bareWays 2) rfl rfl trivial ?_)
    refine zv_ifb (fun hq => ?_) (fun hq => ?_)
    · exact hBareT O P Y g hab hb k _ _
    · have hq : ¬ (nI b - Int32.ofInt 1 ≤ nI m) := hq
      rw [sub_1 (by omega), nI_leI (by omega) (by omega)] at hq
      iterate 3 (refine zv_step (bX0_bareWays 2) rfl rfl trivial ?_)
      refine zv_iale (bX0_bareWays 2) rfl rfl (show vp_in (nI m) 20 by exact vp_in_nI (by omega) (by decide)) (show P 32 (nI m).toNatClampNeg = P 32 (m) by rw [nI_clamp (by omega)]) ?_
      iterate 4 (refine zv_step (bX0_bareWays 2) rfl rfl trivial ?_)
      refine zv_S1 (bX0_bareWays 2) rfl rfl rfl rfl ⟨rfl, rfl, rfl⟩ ⟨by decide, by decide⟩ ⟨Nat.zero_le _, Nat.zero_le _⟩ (hX1_isPair _ _) ?_
      rintro _ _ ⟨rfl, ⟨hp, rfl⟩ | ⟨hp, rfl⟩⟩
      · iterate 1 (refine zv_step (bX0_bareWays 2) rfl rfl trivial ?_)
        refine zv_iff (by decide) ?_
        iterate 2 (refine zv_step (bX0_bareWays 2) rfl rfl trivial ?_)
        refine zv_S2 (bX0_bareWays 2) rfl rfl rfl rfl ⟨rfl, rfl, rfl⟩ ⟨by decide, by decide⟩ ⟨Nat.zero_le _, Nat.zero_le _⟩ (pHasBitW _ _ _) ?_
        rintro _ _ ⟨rfl, rfl⟩
        iterate 1 (refine zv_step (bX0_bareWays 2) rfl rfl trivial ?_)
        refine zv_ifb (fun hz => ?_) (fun hz => ?_)
        · iterate 2 (refine zv_step (bX0_bareWays 2) rfl rfl trivial ?_)
          refine zv_locals (l := [(6, .int (nI m + Int32.ofInt 1)), (7, .int (P 32 m - c8 18)), (4, .long s), (0, .ref 31), (1, .int (nI a)), (2, .int (nI b)), (3, .int k)]) (l' := [(6, .int (nI m + Int32.ofInt 1)), (4, .long (s)), (0, .ref 31), (1, .int (nI a)), (2, .int (nI b)), (3, .int k)]) ?_ (ih (m + 1) (by omega) (by omega) (by omega) (nI_1 m))
          simp
        · iterate 4 (refine zv_step (bX0_bareWays 2) rfl rfl trivial ?_)
          refine zv_aald (bX0_bareWays 2) rfl (Or.inr rfl) rfl (show vp_in (nI a) 21 by exact vp_in_nI (by omega) (by decide)) (show ([some 34, some 35, some 36, some 37, some 38, some 39, some 40, some 41, some 42, some 43, some 44, some 45, some 46, some 47, some 48, some 49, some 50, some 51, some 52, some 53, some 54] : List (Option Nat)).getD (nI a).toNatClampNeg none = some (34 + (a)) by rw [nI_clamp (by omega)]; exact dLs (by omega)) ?_
          iterate 1 (refine zv_step (bX0_bareWays 2) rfl rfl trivial ?_)
          refine zv_lald (bX0_bareWays 2) rfl (wY O P Y g (by omega)) (show vp_in (nI m) 21 by exact vp_in_nI (by omega) (by decide)) ?_
          iterate 5 (refine zv_step (bX0_bareWays 2) rfl rfl trivial ?_)
          refine zv_aald (bX0_bareWays 2) rfl (Or.inr rfl) rfl (show vp_in (nI m + Int32.ofInt 1) 21 by rw [show nI m + Int32.ofInt 1 = nI (m + 1) from nI_1 m]; exact vp_in_nI (by omega) (by decide)) (show ([some 34, some 35, some 36, some 37, some 38, some 39, some 40, some 41, some 42, some 43, some 44, some 45, some 46, some 47, some 48, some 49, some 50, some 51, some 52, some 53, some 54] : List (Option Nat)).getD (nI m + Int32.ofInt 1).toNatClampNeg none = some (34 + (m + 1)) by rw [show nI m + Int32.ofInt 1 = nI (m + 1) from nI_1 m, nI_clamp (by omega)]; exact dLs (by omega)) ?_
          iterate 1 (refine zv_step (bX0_bareWays 2) rfl rfl trivial ?_)
          refine zv_lald (bX0_bareWays 2) rfl (wY O P Y g (by omega)) (show vp_in (nI b) 21 by exact vp_in_nI (by omega) (by decide)) ?_
          iterate 5 (refine zv_step (bX0_bareWays 2) rfl rfl trivial ?_)
          refine zv_locals (l := [(6, .int (nI m + Int32.ofInt 1)), (4, .long (s + Y (34 + a) (nI m).toNatClampNeg * Y (34 + (m + 1)) (nI b).toNatClampNeg)), (7, .int (P 32 m - c8 18)), (0, .ref 31), (1, .int (nI a)), (2, .int (nI b)), (3, .int k)]) (l' := [(6, .int (nI m + Int32.ofInt 1)), (4, .long (s + Y (34 + a) (nI m).toNatClampNeg * Y (34 + (m + 1)) (nI b).toNatClampNeg)), (0, .ref 31), (1, .int (nI a)), (2, .int (nI b)), (3, .int k)]) ?_ (ih (m + 1) (by omega) (by omega) (by omega) (nI_1 m))
          simp
      · iterate 1 (refine zv_step (bX0_bareWays 2) rfl rfl trivial ?_)
        refine zv_ift (by decide) ?_
        iterate 2 (refine zv_step (bX0_bareWays 2) rfl rfl trivial ?_)
        refine zv_locals (l := [(6, .int (nI m + Int32.ofInt 1)), (7, .int (P 32 m - c8 18)), (4, .long s), (0, .ref 31), (1, .int (nI a)), (2, .int (nI b)), (3, .int k)]) (l' := [(6, .int (nI m + Int32.ofInt 1)), (4, .long (s)), (0, .ref 31), (1, .int (nI a)), (2, .int (nI b)), (3, .int k)]) ?_ (ih (m + 1) (by omega) (by omega) (by omega) (nI_1 m))
        simp
set_option maxHeartbeats 1000000 in
set_option maxRecDepth 20000 in
theorem hBare (O : Nat → Int32) (P : Nat → Nat → Int32) (Y : Nat → Nat → Int64) (g : Nat → zC) {a b : Nat} (hab : a < b) (hb : b ≤ 20) {x y : Int32} (ex : x = nI a) (ey : y = nI b) (k : Int32) : zK 2 zX0_bareWays [.ref 31, .int x, .int y, .int k] (wX O P Y g) (fun r w' => w' = wX O P Y g ∧ ∃ v : Int64, r = some (.long v)) := by
  subst ex ey
  refine zK_of qX0_bareWays (by decide +kernel) rfl ?_
  iterate 3 (refine zv_step (bX0_bareWays 2) rfl rfl trivial ?_)
  refine zv_iff (nI_ge (by omega) (by omega)) ?_
  iterate 2 (refine zv_step (bX0_bareWays 2) rfl rfl trivial ?_)
  refine zv_ifb (fun h1 => ?_) (fun h1 => ?_)
  · iterate 6 (refine zv_step (bX0_bareWays 2) rfl rfl trivial ?_)
    exact hBareL O P Y g hab hb k (b - (a + 1)) (a + 1) (by omega) (by omega) (by omega) (nI_1 a)
  · iterate 1 (refine zv_step (bX0_bareWays 2) rfl rfl trivial ?_)
    exact zv_lret (bX0_bareWays 2) rfl rfl (Nat.zero_le _) (Nat.zero_le _) ⟨rfl, _, rfl⟩
set_option maxHeartbeats 1000000 in
set_option maxRecDepth 20000 in
theorem hWays (O : Nat → Int32) (P : Nat → Nat → Int32) (Y : Nat → Nat → Int64) (g : Nat → zC) {a b : Nat} (hab : a < b) (hb : b ≤ 20) {x y : Int32} (ex : x = nI a) (ey : y = nI b) (k : Int32) : zK 3 zX0_waysOf [.ref 31, .int x, .int y, .int k] (wX O P Y g) (fun r w' => w' = wX O P Y g ∧ ∃ v : Int64, r = some (.long v)) := by
  subst ex ey
  refine zK_of qX0_waysOf (by decide +kernel) rfl ?_
  iterate 7 (refine zv_step (bX0_waysOf 3) rfl rfl trivial ?_)
  refine zv_V3 (bX0_waysOf 3) rfl rfl rfl rfl rfl rfl rfl ⟨rfl, rfl, rfl⟩ ⟨by decide, by decide⟩ ⟨Nat.zero_le _, Nat.zero_le _⟩ (hBare O P Y g hab hb rfl rfl _) ?_
  rintro _ _ ⟨rfl, v, rfl⟩
  iterate 4 (refine zv_step (bX0_waysOf 3) rfl rfl trivial ?_)
  refine zv_V2 (bX0_waysOf 3) rfl rfl rfl rfl rfl rfl rfl ⟨rfl, rfl, rfl⟩ ⟨by decide, by decide⟩ ⟨Nat.zero_le _, Nat.zero_le _⟩ (hBr O P Y g hab hb) ?_
  rintro _ _ ⟨rfl, ⟨hh, rfl⟩ | ⟨hh, rfl⟩⟩
  · iterate 1 (refine zv_step (bX0_waysOf 3) rfl rfl trivial ?_)
    refine zv_iff (by decide) ?_
    have h3 := hh.1
    iterate 12 (refine zv_step (bX0_waysOf 3) rfl rfl trivial ?_)
    refine zv_V3 (bX0_waysOf 3) rfl rfl rfl rfl rfl rfl rfl ⟨rfl, rfl, rfl⟩ ⟨by decide, by decide⟩ ⟨Nat.zero_le _, Nat.zero_le _⟩ (hBare O P Y g (a := a + 1) (b := b - 1) (by omega) (by omega) (nI_1 a) (sub_1 (by omega)) _) ?_
    rintro _ _ ⟨rfl, v2, rfl⟩
    iterate 2 (refine zv_step (bX0_waysOf 3) rfl rfl trivial ?_)
    exact zv_lret (bX0_waysOf 3) rfl rfl (Nat.zero_le _) (Nat.zero_le _) ⟨rfl, _, rfl⟩
  · iterate 1 (refine zv_step (bX0_waysOf 3) rfl rfl trivial ?_)
    refine zv_ift (by decide) ?_
    iterate 1 (refine zv_step (bX0_waysOf 3) rfl rfl trivial ?_)
    exact zv_lret (bX0_waysOf 3) rfl rfl (Nat.zero_le _) (Nat.zero_le _) ⟨rfl, _, rfl⟩
