/-- a table of NODES: KIND, v, x, y (places in the table), SIZE -/
abbrev zNd : Type := Nat × Int32 × Nat × Nat × Nat
def repT (b : Nat) (T : List zNd) (A : Nat → Nat → Int32) : Prop := ∀ (a k : Nat) (v : Int32) (x y z : Nat), T[a]? = some (k, v, x, y, z) →
  A 0 (b + a) = nI k ∧ A 1 (b + a) = v ∧ (2 ≤ k → A 2 (b + a) = nI (b + x)) ∧ (2 ≤ k → k ≤ 6 → A 3 (b + a) = nI (b + y)) ∧ A 4 (b + a) = nI z
/-- what the places in the table owe -/
def okN (a : Nat) : zNd → Bool
  | (k, v, x, y, _) => Nat.blt k 10 && (Nat.blt k 2 || Nat.blt x a) && (Nat.blt k 2 || Nat.blt 6 k || Nat.blt y a) && (!Nat.beq k 1 || v == 1)
abbrev c8 (n : Int) : Int32 := (Int8.ofInt n).toInt32
/-- the words of a NODE, out of those of its PARTS (of NUMBERS: 1 alone) -/
def coreW (Ws : Nat → List Int32) (k : Nat) (v : Int32) (x y : Nat) : List Int32 := match k with
  | 0 => [v]
  | 1 => [c8 11]
  | 7 => c8 25 :: Ws x
  | 8 => c8 26 :: (Ws x ++ [c8 27])
  | 9 => v :: c8 28 :: Ws x
  | k => Ws x ++ ((c8 18 + nI k) :: Ws y)
def wordsW (kp : Nat → Bool) (Ws : Nat → List Int32) : zNd → List Int32
  | (k, v, x, y, _) => if kp k then c8 29 :: (coreW Ws k v x y ++ [c8 30]) else coreW Ws k v x y
set_option maxHeartbeats 1000000 in
set_option maxRecDepth 20000 in
theorem mKeepsIt (f : Nat → zC) (o : Nat → Int32) (A : Nat → Nat → Int32) (J : Nat → Nat → Int64) (q : Nat) (g : Nat → Int32) {s n k : Nat} {c : Int32} (hm : o 19 < 0) (hs : s < 8) (hn : n < 450) (hk : k < 10) (h0 : A 0 n = nI k) (h7 : A 7 (10 * s + k) = c) (hc : c = 0 ∨ c = 1) : zK 0 zX7_keepsIt [.ref 76, .int (nI s), .int (nI n)] (wS f o A J q g) (fun r w' => w' = wS f o A J q g ∧ r = some (.int c)) := by
  have e1 : (nI n).toNatClampNeg = n := nI_clamp (by omega)
  have e2 : (c8 10 * nI s + nI k) = nI (10 * s + k) := by unfold c8; rw [e10, pk_mul, nI_add]
  have e3 : (nI (10 * s + k)).toNatClampNeg = 10 * s + k := nI_clamp (by omega)
  refine zK_of qX7_keepsIt (by decide +kernel) rfl ?_
  iterate 3 (refine zv_step (bX7_keepsIt 0) rfl rfl trivial ?_)
  refine zv_ift (show o 19 < 0 from hm) ?_
  iterate 8 (refine zv_step (bX7_keepsIt 0) rfl rfl trivial ?_)
  refine zv_iale (bX7_keepsIt 0) rfl rfl (vp_in_nI hn (by decide)) (show A 0 (nI n).toNatClampNeg = nI k by rw [e1]; exact h0) ?_
  iterate 1 (refine zv_step (bX7_keepsIt 0) rfl rfl trivial ?_)
  refine zv_zale (bX7_keepsIt 0) rfl rfl (show vp_in (c8 10 * nI s + nI k) 90 by rw [e2]; exact vp_in_nI (by omega) (by decide)) (show A 7 (c8 10 * nI s + nI k).toNatClampNeg = c by rw [e2, e3]; exact h7) ?_
  exact zv_iret (bX7_keepsIt 0) rfl (Or.inr ⟨rfl, hc⟩) (Nat.zero_le _) (Nat.zero_le _) ⟨rfl, rfl⟩
set_option maxHeartbeats 1000000 in
set_option maxRecDepth 20000 in
theorem mDigits1 (w : zW) : zK 0 zX7_digits [.int 1] w (fun r w' => w' = w ∧ r = some (.int 1)) := by
  refine zK_of qX7_digits (by decide +kernel) rfl ?_
  repeat' (first
    | refine zv_ift (by decide) ?_
    | refine zv_iff (by decide) ?_
    | refine zv_step (bX7_digits 0) rfl rfl trivial ?_
    | refine zv_iret (bX7_digits 0) rfl (Or.inl rfl) (Nat.zero_le _) (Nat.zero_le _) ?_)
  all_goals exact ⟨rfl, rfl⟩
set_option maxHeartbeats 1000000 in
set_option maxRecDepth 20000 in
theorem sayPair (f : Nat → zC) (o : Nat → Int32) (A : Nat → Nat → Int32) (J : Nat → Nat → Int64) {b a s : Nat} {c : Int32} {n0 : Nat} (hn : b + a < 450) {k x y : Nat} (hk : 2 ≤ k ∧ k ≤ 6) (h0 : A 0 (b + a) = nI k) (h2 : A 2 (b + a) = nI (b + x)) (h3 : A 3 (b + a) = nI (b + y)) (hx : x < a) (hy : y < a) {Lx Ly : List Int32}
    (ix : ∀ (q : Nat) (g : Nat → Int32), q + Lx.length ≤ 256 → zK (x + 2) zX7_say [.ref 76, .int (nI s), .int (nI (b + x))] (wS f o A J q g) (fun r w' => r = none ∧ w' = wS f o A J (q + Lx.length) (appA g q Lx)))
    (iy : ∀ (q : Nat) (g : Nat → Int32), q + Ly.length ≤ 256 → zK (y + 2) zX7_say [.ref 76, .int (nI s), .int (nI (b + y))] (wS f o A J q g) (fun r w' => r = none ∧ w' = wS f o A J (q + Ly.length) (appA g q Ly)))
    {q : Nat} {g : Nat → Int32} (hq : q + (Lx ++ (c8 18 + nI k) :: Ly).length ≤ 256) {Q : Option Value → zW → Prop} (kk : zV (zMo (a + 2) zX7_say) false n0 0 0 270 [(3, .int c), (0, .ref 76), (1, .int (nI s)), (2, .int (nI (b + a)))] [] (wS f o A J (q + (Lx ++ (c8 18 + nI k) :: Ly).length) (appA g q (Lx ++ (c8 18 + nI k) :: Ly))) Q) :
    zV (zMo (a + 2) zX7_say) false n0 0 0 17 [(3, .int c), (0, .ref 76), (1, .int (nI s)), (2, .int (nI (b + a)))] [] (wS f o A J q g) Q := by
  have e1 : (nI (b + a)).toNatClampNeg = b + a := nI_clamp (by omega)
  have hvp : vp_in (nI (b + a)) 450 := vp_in_nI hn (by decide)
  have hl : (Lx ++ (c8 18 + nI k) :: Ly).length = Lx.length + 1 + Ly.length := by rw [List.length_append, List.length_cons]; omega
  rw [appA_app] at kk
  rw [hl] at kk hq
  rw [show q + (Lx.length + 1 + Ly.length) = q + Lx.length + 1 + Ly.length by omega] at kk
  iterate 3 (refine zv_step (bX7_say (a + 2)) rfl rfl trivial ?_)
  refine zv_iale (bX7_say (a + 2)) rfl rfl hvp (show A 0 (nI (b + a)).toNatClampNeg = nI k by rw [e1]; exact h0) ?_
  refine zv_S1 (bX7_say (a + 2)) rfl rfl rfl rfl ⟨rfl, rfl, rfl⟩ ⟨Nat.le_add_left 1 _, by show 8 + (1 + 11) + 64 * 0 ≤ 64 * (a + 2); omega⟩ ⟨Nat.zero_le _, Nat.zero_le _⟩ (hX7_isTwo _ _) ?_
  rintro _ _ ⟨rfl, ⟨hh, rfl⟩ | ⟨hh, rfl⟩⟩
  · iterate 1 (refine zv_step (bX7_say (a + 2)) rfl rfl trivial ?_)
    refine zv_iff (by decide) ?_
    iterate 5 (refine zv_step (bX7_say (a + 2)) rfl rfl trivial ?_)
    refine zv_iale (bX7_say (a + 2)) rfl rfl hvp (show A 2 (nI (b + a)).toNatClampNeg = nI (b + x) by rw [e1]; exact h2) ?_
    refine zv_V2 (bX7_say (a + 2)) rfl rfl rfl rfl rfl rfl rfl ⟨rfl, rfl, rfl⟩ ⟨by show x + 2 + 1 ≤ a + 2; omega, by show 8 + (6 + 11) + 64 * (x + 2) ≤ 64 * (a + 2); omega⟩ ⟨Nat.zero_le _, Nat.zero_le _⟩ (ix q g (by omega)) ?_
    rintro _ _ ⟨rfl, rfl⟩
    iterate 5 (refine zv_step (bX7_say (a + 2)) rfl rfl trivial ?_)
    refine zv_iale (bX7_say (a + 2)) rfl rfl hvp (show A 0 (nI (b + a)).toNatClampNeg = nI k by rw [e1]; exact h0) ?_
    iterate 1 (refine zv_step (bX7_say (a + 2)) rfl rfl trivial ?_)
    refine zv_V1 (bX7_say (a + 2)) rfl rfl rfl rfl rfl rfl rfl ⟨rfl, rfl, rfl⟩ ⟨Nat.le_add_left 1 _, by show 8 + (2 + 11) + 64 * 0 ≤ 64 * (a + 2); omega⟩ ⟨Nat.zero_le _, Nat.zero_le _⟩ (mSays f o A J _ _ (by omega) _) ?_
    rintro _ _ ⟨rfl, rfl⟩
    iterate 5 (refine zv_step (bX7_say (a + 2)) rfl rfl trivial ?_)
    refine zv_iale (bX7_say (a + 2)) rfl rfl hvp (show A 3 (nI (b + a)).toNatClampNeg = nI (b + y) by rw [e1]; exact h3) ?_
    refine zv_V2 (bX7_say (a + 2)) rfl rfl rfl rfl rfl rfl rfl ⟨rfl, rfl, rfl⟩ ⟨by show y + 2 + 1 ≤ a + 2; omega, by show 8 + (6 + 11) + 64 * (y + 2) ≤ 64 * (a + 2); omega⟩ ⟨Nat.zero_le _, Nat.zero_le _⟩ (iy _ _ (by omega)) ?_
    rintro _ _ ⟨rfl, rfl⟩
    iterate 1 (refine zv_step (bX7_say (a + 2)) rfl rfl trivial ?_)
    exact kk
  · exfalso
    rw [nI_toInt (by omega)] at hh
    omega
set_option maxHeartbeats 1000000 in
set_option maxRecDepth 20000 in
theorem sayLetter (f : Nat → zC) (o : Nat → Int32) (A : Nat → Nat → Int32) (J : Nat → Nat → Int64) {b a s : Nat} {c : Int32} {n0 : Nat} (hn : b + a < 450) (h0 : A 0 (b + a) = nI 0) {v : Int32} (h1 : A 1 (b + a) = v) {q : Nat} {g : Nat → Int32} (hq : q + ([v]).length ≤ 256) {Q : Option Value → zW → Prop} (kk : zV (zMo (a + 2) zX7_say) false n0 0 0 270 [(3, .int c), (0, .ref 76), (1, .int (nI s)), (2, .int (nI (b + a)))] [] (wS f o A J (q + ([v]).length) (appA g q ([v]))) Q) :
    zV (zMo (a + 2) zX7_say) false n0 0 0 17 [(3, .int c), (0, .ref 76), (1, .int (nI s)), (2, .int (nI (b + a)))] [] (wS f o A J q g) Q := by
  have e1 : (nI (b + a)).toNatClampNeg = b + a := nI_clamp (by omega)
  have hvp : vp_in (nI (b + a)) 450 := vp_in_nI hn (by decide)
  iterate 3 (refine zv_step (bX7_say (a + 2)) rfl rfl trivial ?_)
  refine zv_iale (bX7_say (a + 2)) rfl rfl hvp (show A 0 (nI (b + a)).toNatClampNeg = nI 0 by rw [e1]; exact h0) ?_
  refine zv_S1 (bX7_say (a + 2)) rfl rfl rfl rfl ⟨rfl, rfl, rfl⟩ ⟨Nat.le_add_left 1 _, by show 8 + (1 + 11) + 64 * 0 ≤ 64 * (a + 2); omega⟩ ⟨Nat.zero_le _, Nat.zero_le _⟩ (hX7_isTwo _ _) ?_
  rintro _ _ ⟨rfl, ⟨hh, rfl⟩ | ⟨hh, rfl⟩⟩
  · exfalso
    rw [nI_toInt (by omega)] at hh
    omega
  · iterate 1 (refine zv_step (bX7_say (a + 2)) rfl rfl trivial ?_)
    refine zv_ift (by decide) ?_
    iterate 3 (refine zv_step (bX7_say (a + 2)) rfl rfl trivial ?_)
    refine zv_iale (bX7_say (a + 2)) rfl rfl hvp (show A 0 (nI (b + a)).toNatClampNeg = nI 0 by rw [e1]; exact h0) ?_
    iterate 2 (refine zv_step (bX7_say (a + 2)) rfl rfl trivial ?_)
    refine zv_ift (by decide) ?_
    iterate 3 (refine zv_step (bX7_say (a + 2)) rfl rfl trivial ?_)
    refine zv_iale (bX7_say (a + 2)) rfl rfl hvp (show A 0 (nI (b + a)).toNatClampNeg = nI 0 by rw [e1]; exact h0) ?_
    iterate 1 (refine zv_step (bX7_say (a + 2)) rfl rfl trivial ?_)
    refine zv_iff (by decide) ?_
    iterate 4 (refine zv_step (bX7_say (a + 2)) rfl rfl trivial ?_)
    refine zv_iale (bX7_say (a + 2)) rfl rfl hvp (show A 1 (nI (b + a)).toNatClampNeg = v by rw [e1]; exact h1) ?_
    refine zv_V1 (bX7_say (a + 2)) rfl rfl rfl rfl rfl rfl rfl ⟨rfl, rfl, rfl⟩ ⟨Nat.le_add_left 1 _, by show 8 + (2 + 11) + 64 * 0 ≤ 64 * (a + 2); omega⟩ ⟨Nat.zero_le _, Nat.zero_le _⟩ (mSays f o A J _ _ (by simp only [List.length_cons, List.length_nil] at hq; omega) _) ?_
    rintro _ _ ⟨rfl, rfl⟩
    iterate 1 (refine zv_step (bX7_say (a + 2)) rfl rfl trivial ?_)
    exact kk
set_option maxHeartbeats 1000000 in
set_option maxRecDepth 20000 in
theorem sayRoot (f : Nat → zC) (o : Nat → Int32) (A : Nat → Nat → Int32) (J : Nat → Nat → Int64) {b a s : Nat} {c : Int32} {n0 : Nat} (hn : b + a < 450) (h0 : A 0 (b + a) = nI 7)  {x : Nat} (h2 : A 2 (b + a) = nI (b + x)) (hx : x < a) {Lx : List Int32}
    (ix : ∀ (q : Nat) (g : Nat → Int32), q + Lx.length ≤ 256 → zK (x + 2) zX7_say [.ref 76, .int (nI s), .int (nI (b + x))] (wS f o A J q g) (fun r w' => r = none ∧ w' = wS f o A J (q + Lx.length) (appA g q Lx))) {q : Nat} {g : Nat → Int32} (hq : q + (c8 25 :: Lx).length ≤ 256) {Q : Option Value → zW → Prop} (kk : zV (zMo (a + 2) zX7_say) false n0 0 0 270 [(3, .int c), (0, .ref 76), (1, .int (nI s)), (2, .int (nI (b + a)))] [] (wS f o A J (q + (c8 25 :: Lx).length) (appA g q (c8 25 :: Lx))) Q) :
    zV (zMo (a + 2) zX7_say) false n0 0 0 17 [(3, .int c), (0, .ref 76), (1, .int (nI s)), (2, .int (nI (b + a)))] [] (wS f o A J q g) Q := by
  have e1 : (nI (b + a)).toNatClampNeg = b + a := nI_clamp (by omega)
  have hvp : vp_in (nI (b + a)) 450 := vp_in_nI hn (by decide)
  iterate 3 (refine zv_step (bX7_say (a + 2)) rfl rfl trivial ?_)
  refine zv_iale (bX7_say (a + 2)) rfl rfl hvp (show A 0 (nI (b + a)).toNatClampNeg = nI 7 by rw [e1]; exact h0) ?_
  refine zv_S1 (bX7_say (a + 2)) rfl rfl rfl rfl ⟨rfl, rfl, rfl⟩ ⟨Nat.le_add_left 1 _, by show 8 + (1 + 11) + 64 * 0 ≤ 64 * (a + 2); omega⟩ ⟨Nat.zero_le _, Nat.zero_le _⟩ (hX7_isTwo _ _) ?_
  rintro _ _ ⟨rfl, ⟨hh, rfl⟩ | ⟨hh, rfl⟩⟩
  · exfalso
    rw [nI_toInt (by omega)] at hh
    omega
  · iterate 1 (refine zv_step (bX7_say (a + 2)) rfl rfl trivial ?_)
    refine zv_ift (by decide) ?_
    iterate 3 (refine zv_step (bX7_say (a + 2)) rfl rfl trivial ?_)
    refine zv_iale (bX7_say (a + 2)) rfl rfl hvp (show A 0 (nI (b + a)).toNatClampNeg = nI 7 by rw [e1]; exact h0) ?_
    iterate 2 (refine zv_step (bX7_say (a + 2)) rfl rfl trivial ?_)
    refine zv_ift (by decide) ?_
    iterate 3 (refine zv_step (bX7_say (a + 2)) rfl rfl trivial ?_)
    refine zv_iale (bX7_say (a + 2)) rfl rfl hvp (show A 0 (nI (b + a)).toNatClampNeg = nI 7 by rw [e1]; exact h0) ?_
    iterate 1 (refine zv_step (bX7_say (a + 2)) rfl rfl trivial ?_)
    refine zv_ift (by decide) ?_
    iterate 4 (refine zv_step (bX7_say (a + 2)) rfl rfl trivial ?_)
    refine zv_iale (bX7_say (a + 2)) rfl rfl hvp (show A 0 (nI (b + a)).toNatClampNeg = nI 7 by rw [e1]; exact h0) ?_
    iterate 2 (refine zv_step (bX7_say (a + 2)) rfl rfl trivial ?_)
    refine zv_iff (by decide) ?_
    iterate 2 (refine zv_step (bX7_say (a + 2)) rfl rfl trivial ?_)
    refine zv_V1 (bX7_say (a + 2)) rfl rfl rfl rfl rfl rfl rfl ⟨rfl, rfl, rfl⟩ ⟨Nat.le_add_left 1 _, by show 8 + (2 + 11) + 64 * 0 ≤ 64 * (a + 2); omega⟩ ⟨Nat.zero_le _, Nat.zero_le _⟩ (mSays f o A J _ _ (by simp only [List.length_cons, List.length_nil, List.length_append] at hq; omega) _) ?_
    rintro _ _ ⟨rfl, rfl⟩
    iterate 3 (refine zv_step (bX7_say (a + 2)) rfl rfl trivial ?_)
    refine zv_iale (bX7_say (a + 2)) rfl rfl hvp (show A 0 (nI (b + a)).toNatClampNeg = nI 7 by rw [e1]; exact h0) ?_
    iterate 2 (refine zv_step (bX7_say (a + 2)) rfl rfl trivial ?_)
    refine zv_ift (by decide) ?_
    iterate 5 (refine zv_step (bX7_say (a + 2)) rfl rfl trivial ?_)
    refine zv_iale (bX7_say (a + 2)) rfl rfl hvp (show A 2 (nI (b + a)).toNatClampNeg = nI (b + x) by rw [e1]; exact h2) ?_
    refine zv_V2 (bX7_say (a + 2)) rfl rfl rfl rfl rfl rfl rfl ⟨rfl, rfl, rfl⟩ ⟨by show x + 2 + 1 ≤ a + 2; omega, by show 8 + (6 + 11) + 64 * (x + 2) ≤ 64 * (a + 2); omega⟩ ⟨Nat.zero_le _, Nat.zero_le _⟩ (ix _ _ (by simp only [List.length_cons, List.length_nil, List.length_append] at hq; omega)) ?_
    rintro _ _ ⟨rfl, rfl⟩
    iterate 3 (refine zv_step (bX7_say (a + 2)) rfl rfl trivial ?_)
    refine zv_iale (bX7_say (a + 2)) rfl rfl hvp (show A 0 (nI (b + a)).toNatClampNeg = nI 7 by rw [e1]; exact h0) ?_
    iterate 2 (refine zv_step (bX7_say (a + 2)) rfl rfl trivial ?_)
    refine zv_ift (by decide) ?_
    rw [show c8 25 :: Lx = [c8 25] ++ Lx from rfl, appA_app] at kk
    simp only [List.length_cons, List.length_append, List.length_nil] at kk
    rw [show q + (0 + 1 + Lx.length) = q + 1 + Lx.length by omega] at kk
    exact kk
set_option maxHeartbeats 1000000 in
set_option maxRecDepth 20000 in
theorem sayFenced (f : Nat → zC) (o : Nat → Int32) (A : Nat → Nat → Int32) (J : Nat → Nat → Int64) {b a s : Nat} {c : Int32} {n0 : Nat} (hn : b + a < 450) (h0 : A 0 (b + a) = nI 8)  {x : Nat} (h2 : A 2 (b + a) = nI (b + x)) (hx : x < a) {Lx : List Int32}
    (ix : ∀ (q : Nat) (g : Nat → Int32), q + Lx.length ≤ 256 → zK (x + 2) zX7_say [.ref 76, .int (nI s), .int (nI (b + x))] (wS f o A J q g) (fun r w' => r = none ∧ w' = wS f o A J (q + Lx.length) (appA g q Lx))) {q : Nat} {g : Nat → Int32} (hq : q + (c8 26 :: (Lx ++ [c8 27])).length ≤ 256) {Q : Option Value → zW → Prop} (kk : zV (zMo (a + 2) zX7_say) false n0 0 0 270 [(3, .int c), (0, .ref 76), (1, .int (nI s)), (2, .int (nI (b + a)))] [] (wS f o A J (q + (c8 26 :: (Lx ++ [c8 27])).length) (appA g q (c8 26 :: (Lx ++ [c8 27])))) Q) :
    zV (zMo (a + 2) zX7_say) false n0 0 0 17 [(3, .int c), (0, .ref 76), (1, .int (nI s)), (2, .int (nI (b + a)))] [] (wS f o A J q g) Q := by
  have e1 : (nI (b + a)).toNatClampNeg = b + a := nI_clamp (by omega)
  have hvp : vp_in (nI (b + a)) 450 := vp_in_nI hn (by decide)
  iterate 3 (refine zv_step (bX7_say (a + 2)) rfl rfl trivial ?_)
  refine zv_iale (bX7_say (a + 2)) rfl rfl hvp (show A 0 (nI (b + a)).toNatClampNeg = nI 8 by rw [e1]; exact h0) ?_
  refine zv_S1 (bX7_say (a + 2)) rfl rfl rfl rfl ⟨rfl, rfl, rfl⟩ ⟨Nat.le_add_left 1 _, by show 8 + (1 + 11) + 64 * 0 ≤ 64 * (a + 2); omega⟩ ⟨Nat.zero_le _, Nat.zero_le _⟩ (hX7_isTwo _ _) ?_
  rintro _ _ ⟨rfl, ⟨hh, rfl⟩ | ⟨hh, rfl⟩⟩
  · exfalso
    rw [nI_toInt (by omega)] at hh
    omega
  · iterate 1 (refine zv_step (bX7_say (a + 2)) rfl rfl trivial ?_)
    refine zv_ift (by decide) ?_
    iterate 3 (refine zv_step (bX7_say (a + 2)) rfl rfl trivial ?_)
    refine zv_iale (bX7_say (a + 2)) rfl rfl hvp (show A 0 (nI (b + a)).toNatClampNeg = nI 8 by rw [e1]; exact h0) ?_
    iterate 2 (refine zv_step (bX7_say (a + 2)) rfl rfl trivial ?_)
    refine zv_ift (by decide) ?_
    iterate 3 (refine zv_step (bX7_say (a + 2)) rfl rfl trivial ?_)
    refine zv_iale (bX7_say (a + 2)) rfl rfl hvp (show A 0 (nI (b + a)).toNatClampNeg = nI 8 by rw [e1]; exact h0) ?_
    iterate 1 (refine zv_step (bX7_say (a + 2)) rfl rfl trivial ?_)
    refine zv_ift (by decide) ?_
    iterate 4 (refine zv_step (bX7_say (a + 2)) rfl rfl trivial ?_)
    refine zv_iale (bX7_say (a + 2)) rfl rfl hvp (show A 0 (nI (b + a)).toNatClampNeg = nI 8 by rw [e1]; exact h0) ?_
    iterate 2 (refine zv_step (bX7_say (a + 2)) rfl rfl trivial ?_)
    refine zv_ift (by decide) ?_
    iterate 3 (refine zv_step (bX7_say (a + 2)) rfl rfl trivial ?_)
    refine zv_iale (bX7_say (a + 2)) rfl rfl hvp (show A 0 (nI (b + a)).toNatClampNeg = nI 8 by rw [e1]; exact h0) ?_
    iterate 2 (refine zv_step (bX7_say (a + 2)) rfl rfl trivial ?_)
    refine zv_iff (by decide) ?_
    iterate 2 (refine zv_step (bX7_say (a + 2)) rfl rfl trivial ?_)
    refine zv_V1 (bX7_say (a + 2)) rfl rfl rfl rfl rfl rfl rfl ⟨rfl, rfl, rfl⟩ ⟨Nat.le_add_left 1 _, by show 8 + (2 + 11) + 64 * 0 ≤ 64 * (a + 2); omega⟩ ⟨Nat.zero_le _, Nat.zero_le _⟩ (mSays f o A J _ _ (by simp only [List.length_cons, List.length_nil, List.length_append] at hq; omega) _) ?_
    rintro _ _ ⟨rfl, rfl⟩
    iterate 3 (refine zv_step (bX7_say (a + 2)) rfl rfl trivial ?_)
    refine zv_iale (bX7_say (a + 2)) rfl rfl hvp (show A 0 (nI (b + a)).toNatClampNeg = nI 8 by rw [e1]; exact h0) ?_
    iterate 2 (refine zv_step (bX7_say (a + 2)) rfl rfl trivial ?_)
    refine zv_ift (by decide) ?_
    iterate 5 (refine zv_step (bX7_say (a + 2)) rfl rfl trivial ?_)
    refine zv_iale (bX7_say (a + 2)) rfl rfl hvp (show A 2 (nI (b + a)).toNatClampNeg = nI (b + x) by rw [e1]; exact h2) ?_
    refine zv_V2 (bX7_say (a + 2)) rfl rfl rfl rfl rfl rfl rfl ⟨rfl, rfl, rfl⟩ ⟨by show x + 2 + 1 ≤ a + 2; omega, by show 8 + (6 + 11) + 64 * (x + 2) ≤ 64 * (a + 2); omega⟩ ⟨Nat.zero_le _, Nat.zero_le _⟩ (ix _ _ (by simp only [List.length_cons, List.length_nil, List.length_append] at hq; omega)) ?_
    rintro _ _ ⟨rfl, rfl⟩
    iterate 3 (refine zv_step (bX7_say (a + 2)) rfl rfl trivial ?_)
    refine zv_iale (bX7_say (a + 2)) rfl rfl hvp (show A 0 (nI (b + a)).toNatClampNeg = nI 8 by rw [e1]; exact h0) ?_
    iterate 2 (refine zv_step (bX7_say (a + 2)) rfl rfl trivial ?_)
    refine zv_iff (by decide) ?_
    iterate 2 (refine zv_step (bX7_say (a + 2)) rfl rfl trivial ?_)
    refine zv_V1 (bX7_say (a + 2)) rfl rfl rfl rfl rfl rfl rfl ⟨rfl, rfl, rfl⟩ ⟨Nat.le_add_left 1 _, by show 8 + (2 + 11) + 64 * 0 ≤ 64 * (a + 2); omega⟩ ⟨Nat.zero_le _, Nat.zero_le _⟩ (mSays f o A J _ _ (by simp only [List.length_cons, List.length_nil, List.length_append] at hq; omega) _) ?_
    rintro _ _ ⟨rfl, rfl⟩
    rw [show c8 26 :: (Lx ++ [c8 27]) = [c8 26] ++ (Lx ++ [c8 27]) from rfl, appA_app, appA_app] at kk
    simp only [List.length_cons, List.length_append, List.length_nil] at kk
    rw [show q + (0 + 1 + (Lx.length + (0 + 1))) = q + 1 + Lx.length + 1 by omega] at kk
    exact kk
set_option maxHeartbeats 1000000 in
set_option maxRecDepth 20000 in
theorem sayCall (f : Nat → zC) (o : Nat → Int32) (A : Nat → Nat → Int32) (J : Nat → Nat → Int64) {b a s : Nat} {c : Int32} {n0 : Nat} (hn : b + a < 450) (h0 : A 0 (b + a) = nI 9) {v : Int32} (h1 : A 1 (b + a) = v) {x : Nat} (h2 : A 2 (b + a) = nI (b + x)) (hx : x < a) {Lx : List Int32}
    (ix : ∀ (q : Nat) (g : Nat → Int32), q + Lx.length ≤ 256 → zK (x + 2) zX7_say [.ref 76, .int (nI s), .int (nI (b + x))] (wS f o A J q g) (fun r w' => r = none ∧ w' = wS f o A J (q + Lx.length) (appA g q Lx))) {q : Nat} {g : Nat → Int32} (hq : q + (v :: c8 28 :: Lx).length ≤ 256) {Q : Option Value → zW → Prop} (kk : zV (zMo (a + 2) zX7_say) false n0 0 0 270 [(3, .int c), (0, .ref 76), (1, .int (nI s)), (2, .int (nI (b + a)))] [] (wS f o A J (q + (v :: c8 28 :: Lx).length) (appA g q (v :: c8 28 :: Lx))) Q) :
    zV (zMo (a + 2) zX7_say) false n0 0 0 17 [(3, .int c), (0, .ref 76), (1, .int (nI s)), (2, .int (nI (b + a)))] [] (wS f o A J q g) Q := by
  have e1 : (nI (b + a)).toNatClampNeg = b + a := nI_clamp (by omega)
  have hvp : vp_in (nI (b + a)) 450 := vp_in_nI hn (by decide)
  iterate 3 (refine zv_step (bX7_say (a + 2)) rfl rfl trivial ?_)
  refine zv_iale (bX7_say (a + 2)) rfl rfl hvp (show A 0 (nI (b + a)).toNatClampNeg = nI 9 by rw [e1]; exact h0) ?_
  refine zv_S1 (bX7_say (a + 2)) rfl rfl rfl rfl ⟨rfl, rfl, rfl⟩ ⟨Nat.le_add_left 1 _, by show 8 + (1 + 11) + 64 * 0 ≤ 64 * (a + 2); omega⟩ ⟨Nat.zero_le _, Nat.zero_le _⟩ (hX7_isTwo _ _) ?_
  rintro _ _ ⟨rfl, ⟨hh, rfl⟩ | ⟨hh, rfl⟩⟩
  · exfalso
    rw [nI_toInt (by omega)] at hh
    omega
  · iterate 1 (refine zv_step (bX7_say (a + 2)) rfl rfl trivial ?_)
    refine zv_ift (by decide) ?_
    iterate 3 (refine zv_step (bX7_say (a + 2)) rfl rfl trivial ?_)
    refine zv_iale (bX7_say (a + 2)) rfl rfl hvp (show A 0 (nI (b + a)).toNatClampNeg = nI 9 by rw [e1]; exact h0) ?_
    iterate 2 (refine zv_step (bX7_say (a + 2)) rfl rfl trivial ?_)
    refine zv_ift (by decide) ?_
    iterate 3 (refine zv_step (bX7_say (a + 2)) rfl rfl trivial ?_)
    refine zv_iale (bX7_say (a + 2)) rfl rfl hvp (show A 0 (nI (b + a)).toNatClampNeg = nI 9 by rw [e1]; exact h0) ?_
    iterate 1 (refine zv_step (bX7_say (a + 2)) rfl rfl trivial ?_)
    refine zv_ift (by decide) ?_
    iterate 4 (refine zv_step (bX7_say (a + 2)) rfl rfl trivial ?_)
    refine zv_iale (bX7_say (a + 2)) rfl rfl hvp (show A 0 (nI (b + a)).toNatClampNeg = nI 9 by rw [e1]; exact h0) ?_
    iterate 2 (refine zv_step (bX7_say (a + 2)) rfl rfl trivial ?_)
    refine zv_ift (by decide) ?_
    iterate 3 (refine zv_step (bX7_say (a + 2)) rfl rfl trivial ?_)
    refine zv_iale (bX7_say (a + 2)) rfl rfl hvp (show A 0 (nI (b + a)).toNatClampNeg = nI 9 by rw [e1]; exact h0) ?_
    iterate 2 (refine zv_step (bX7_say (a + 2)) rfl rfl trivial ?_)
    refine zv_ift (by decide) ?_
    iterate 3 (refine zv_step (bX7_say (a + 2)) rfl rfl trivial ?_)
    refine zv_iale (bX7_say (a + 2)) rfl rfl hvp (show A 1 (nI (b + a)).toNatClampNeg = v by rw [e1]; exact h1) ?_
    refine zv_V1 (bX7_say (a + 2)) rfl rfl rfl rfl rfl rfl rfl ⟨rfl, rfl, rfl⟩ ⟨Nat.le_add_left 1 _, by show 8 + (2 + 11) + 64 * 0 ≤ 64 * (a + 2); omega⟩ ⟨Nat.zero_le _, Nat.zero_le _⟩ (mSays f o A J _ _ (by simp only [List.length_cons, List.length_nil, List.length_append] at hq; omega) _) ?_
    rintro _ _ ⟨rfl, rfl⟩
    iterate 3 (refine zv_step (bX7_say (a + 2)) rfl rfl trivial ?_)
    refine zv_iale (bX7_say (a + 2)) rfl rfl hvp (show A 0 (nI (b + a)).toNatClampNeg = nI 9 by rw [e1]; exact h0) ?_
    iterate 2 (refine zv_step (bX7_say (a + 2)) rfl rfl trivial ?_)
    refine zv_iff (by decide) ?_
    iterate 2 (refine zv_step (bX7_say (a + 2)) rfl rfl trivial ?_)
    refine zv_V1 (bX7_say (a + 2)) rfl rfl rfl rfl rfl rfl rfl ⟨rfl, rfl, rfl⟩ ⟨Nat.le_add_left 1 _, by show 8 + (2 + 11) + 64 * 0 ≤ 64 * (a + 2); omega⟩ ⟨Nat.zero_le _, Nat.zero_le _⟩ (mSays f o A J _ _ (by simp only [List.length_cons, List.length_nil, List.length_append] at hq; omega) _) ?_
    rintro _ _ ⟨rfl, rfl⟩
    iterate 5 (refine zv_step (bX7_say (a + 2)) rfl rfl trivial ?_)
    refine zv_iale (bX7_say (a + 2)) rfl rfl hvp (show A 2 (nI (b + a)).toNatClampNeg = nI (b + x) by rw [e1]; exact h2) ?_
    refine zv_V2 (bX7_say (a + 2)) rfl rfl rfl rfl rfl rfl rfl ⟨rfl, rfl, rfl⟩ ⟨by show x + 2 + 1 ≤ a + 2; omega, by show 8 + (6 + 11) + 64 * (x + 2) ≤ 64 * (a + 2); omega⟩ ⟨Nat.zero_le _, Nat.zero_le _⟩ (ix _ _ (by simp only [List.length_cons, List.length_nil, List.length_append] at hq; omega)) ?_
    rintro _ _ ⟨rfl, rfl⟩
    iterate 3 (refine zv_step (bX7_say (a + 2)) rfl rfl trivial ?_)
    refine zv_iale (bX7_say (a + 2)) rfl rfl hvp (show A 0 (nI (b + a)).toNatClampNeg = nI 9 by rw [e1]; exact h0) ?_
    iterate 2 (refine zv_step (bX7_say (a + 2)) rfl rfl trivial ?_)
    refine zv_ift (by decide) ?_
    rw [show v :: c8 28 :: Lx = [v, c8 28] ++ Lx from rfl, appA_app] at kk
    simp only [List.length_cons, List.length_append, List.length_nil] at kk
    rw [show q + (0 + 1 + 1 + Lx.length) = q + 1 + 1 + Lx.length by omega] at kk
    exact kk
set_option maxHeartbeats 1000000 in
set_option maxRecDepth 20000 in
theorem sayOne (f : Nat → zC) (o : Nat → Int32) (A : Nat → Nat → Int32) (J : Nat → Nat → Int64) {b a s : Nat} {c : Int32} {n0 : Nat} (hn : b + a < 450) (h0 : A 0 (b + a) = nI 1) (h1 : A 1 (b + a) = 1) {q : Nat} {g : Nat → Int32} (hq : q + ([c8 11]).length ≤ 256) {Q : Option Value → zW → Prop} (kk : zV (zMo (a + 2) zX7_say) false n0 0 0 270 [(5, .int (1 + Int32.ofInt (-1))), (4, .int (Int32.ofInt 1 / c8 10)), (3, .int c), (0, .ref 76), (1, .int (nI s)), (2, .int (nI (b + a)))] [] (wS f o A J (q + ([c8 11]).length) (appA g q ([c8 11]))) Q) :
    zV (zMo (a + 2) zX7_say) false n0 0 0 17 [(3, .int c), (0, .ref 76), (1, .int (nI s)), (2, .int (nI (b + a)))] [] (wS f o A J q g) Q := by
  have e1 : (nI (b + a)).toNatClampNeg = b + a := nI_clamp (by omega)
  have hvp : vp_in (nI (b + a)) 450 := vp_in_nI hn (by decide)
  iterate 3 (refine zv_step (bX7_say (a + 2)) rfl rfl trivial ?_)
  refine zv_iale (bX7_say (a + 2)) rfl rfl hvp (show A 0 (nI (b + a)).toNatClampNeg = nI 1 by rw [e1]; exact h0) ?_
  refine zv_S1 (bX7_say (a + 2)) rfl rfl rfl rfl ⟨rfl, rfl, rfl⟩ ⟨Nat.le_add_left 1 _, by show 8 + (1 + 11) + 64 * 0 ≤ 64 * (a + 2); omega⟩ ⟨Nat.zero_le _, Nat.zero_le _⟩ (hX7_isTwo _ _) ?_
  rintro _ _ ⟨rfl, ⟨hh, rfl⟩ | ⟨hh, rfl⟩⟩
  · exfalso
    rw [nI_toInt (by omega)] at hh
    omega
  · iterate 1 (refine zv_step (bX7_say (a + 2)) rfl rfl trivial ?_)
    refine zv_ift (by decide) ?_
    iterate 3 (refine zv_step (bX7_say (a + 2)) rfl rfl trivial ?_)
    refine zv_iale (bX7_say (a + 2)) rfl rfl hvp (show A 0 (nI (b + a)).toNatClampNeg = nI 1 by rw [e1]; exact h0) ?_
    iterate 2 (refine zv_step (bX7_say (a + 2)) rfl rfl trivial ?_)
    refine zv_iff (by decide) ?_
    iterate 4 (refine zv_step (bX7_say (a + 2)) rfl rfl trivial ?_)
    iterate 4 (refine zv_step (bX7_say (a + 2)) rfl rfl trivial ?_)
    refine zv_iale (bX7_say (a + 2)) rfl rfl hvp (show A 1 (nI (b + a)).toNatClampNeg = 1 by rw [e1]; exact h1) ?_
    refine zv_S1 (bX7_say (a + 2)) rfl rfl rfl rfl ⟨rfl, rfl, rfl⟩ ⟨Nat.le_add_left 1 _, by show 8 + (1 + 11) + 64 * 0 ≤ 64 * (a + 2); omega⟩ ⟨Nat.zero_le _, Nat.zero_le _⟩ (mDigits1 _) ?_
    rintro _ _ ⟨rfl, rfl⟩
    iterate 1 (refine zv_step (bX7_say (a + 2)) rfl rfl trivial ?_)
    refine zv_ift (by decide) ?_
    iterate 3 (refine zv_step (bX7_say (a + 2)) rfl rfl trivial ?_)
    refine zv_iale (bX7_say (a + 2)) rfl rfl hvp (show A 1 (nI (b + a)).toNatClampNeg = 1 by rw [e1]; exact h1) ?_
    refine zv_S1 (bX7_say (a + 2)) rfl rfl rfl rfl ⟨rfl, rfl, rfl⟩ ⟨Nat.le_add_left 1 _, by show 8 + (1 + 11) + 64 * 0 ≤ 64 * (a + 2); omega⟩ ⟨Nat.zero_le _, Nat.zero_le _⟩ (mDigits1 _) ?_
    rintro _ _ ⟨rfl, rfl⟩
    iterate 3 (refine zv_step (bX7_say (a + 2)) rfl rfl trivial ?_)
    refine zv_iff (by decide) ?_
    iterate 5 (refine zv_step (bX7_say (a + 2)) rfl rfl trivial ?_)
    refine zv_iale (bX7_say (a + 2)) rfl rfl hvp (show A 1 (nI (b + a)).toNatClampNeg = 1 by rw [e1]; exact h1) ?_
    iterate 1 (refine zv_step (bX7_say (a + 2)) rfl rfl trivial ?_)
    refine zv_step (bX7_say (a + 2)) rfl rfl (by decide) ?_
    iterate 1 (refine zv_step (bX7_say (a + 2)) rfl rfl trivial ?_)
    refine zv_step (bX7_say (a + 2)) rfl rfl (by decide) ?_
    iterate 1 (refine zv_step (bX7_say (a + 2)) rfl rfl trivial ?_)
    refine zv_V1 (bX7_say (a + 2)) rfl rfl rfl rfl rfl rfl rfl ⟨rfl, rfl, rfl⟩ ⟨Nat.le_add_left 1 _, by show 8 + (2 + 11) + 64 * 0 ≤ 64 * (a + 2); omega⟩ ⟨Nat.zero_le _, Nat.zero_le _⟩ (mSays f o A J _ _ (by simp only [List.length_cons, List.length_nil] at hq; omega) _) ?_
    rintro _ _ ⟨rfl, rfl⟩
    iterate 2 (refine zv_step (bX7_say (a + 2)) rfl rfl trivial ?_)
    refine zv_step (bX7_say (a + 2)) rfl rfl (by decide) ?_
    iterate 3 (refine zv_step (bX7_say (a + 2)) rfl rfl trivial ?_)
    iterate 2 (refine zv_step (bX7_say (a + 2)) rfl rfl trivial ?_)
    refine zv_ift (by decide) ?_
    iterate 1 (refine zv_step (bX7_say (a + 2)) rfl rfl trivial ?_)
    exact kk
