section
theorem tmW_eq {a b : Nat} (h : a * b ≤ cap) : tmW a b = a * b := if_pos h
theorem plW_eq {a b : Nat} (h : a + b ≤ cap) : plW a b = a + b := if_pos h
theorem csW_eq {g : Nat → Nat} : ∀ c, sW g c ≤ cap → csW g c = sW g c
  | 0, _ => rfl
  | c + 1, h => by
    have h' : sW g c + g c ≤ cap := h
    show plW (csW g c) (g c) = sW g c + g c
    rw [csW_eq c (by omega), plW_eq h']
theorem pfS_mono {E : Nat → Nat} {L : Nat → Nat → Nat} {k a b : Nat} (d : Nat) : ∀ c, pfS E L k a b d ≤ pfS E L k a b (d + c)
  | 0 => Nat.le_refl _
  | c + 1 => Nat.le_trans (pfS_mono d c) (Nat.le_add_right _ _)
theorem wiP_eq {E : Nat → Nat} {L : Nat → Nat → Nat} {k a b : Nat} : ∀ (c d n : Nat), n = pfS E L k a b d → pfS E L k a b (d + c) ≤ cap → wiP E L k a b c (a + 1 + d) n = pfS E L k a b (d + c)
  | 0, d, n, h, _ => h
  | c + 1, d, n, h, hc => by
    rw [show d + (c + 1) = d + 1 + c by omega] at hc ⊢
    have hm := pfS_mono (E := E) (L := L) (k := k) (a := a) (b := b) (d + 1) c
    refine wiP_eq c (d + 1) _ ?_ hc
    have e : pfS E L k a b (d + 1) = pfS E L k a b d + (if E (a + 1 + d) = 18 + k then tmW (L a (a + 1 + d)) (L (a + 1 + d + 1) b) else 0) := rfl
    rw [e] at hm ⊢
    rw [h]
    split
    · rename_i q
      rw [if_pos q] at hm
      exact plW_eq (by omega)
    · rfl
/-- a sum over KINDS -/
def kS (K : Nat → Bool) (w : Nat → Nat) : Nat → Nat
  | 0 => 0
  | c + 1 => kS K w c + (if K c = true then w c else 0)
/-- READINGS of the words i .. j, not KEPT, of the KINDS K -/
def bS (E : Nat → Nat) (G : Nat → Int32) (L : Nat → Nat → Nat) (K : Nat → Bool) (i j : Nat) : Nat := kS K (fun k => wi E G L k i j) 10
/-- the pairs among them whose word stands ahead of place a + 1 + c -/
def pK (E : Nat → Nat) (L : Nat → Nat → Nat) (K : Nat → Bool) (a b : Nat) : Nat → Nat
  | 0 => 0
  | c + 1 => pK E L K a b c + (if 20 ≤ E (a + 1 + c) ∧ E (a + 1 + c) ≤ 24 ∧ K (E (a + 1 + c) - 18) = true then tmW (L a (a + 1 + c)) (L (a + 1 + c + 1) b) else 0)
theorem ite_add {b : Bool} (x y : Nat) : (if b = true then x + y else 0) = (if b = true then x else 0) + (if b = true then y else 0) := by
  cases b <;> rfl
theorem one_k (K : Nat → Bool) (e t : Nat) : (if K 2 = true then (if e = 18 + 2 then t else 0) else 0) + (if K 3 = true then (if e = 18 + 3 then t else 0) else 0) + (if K 4 = true then (if e = 18 + 4 then t else 0) else 0) + (if K 5 = true then (if e = 18 + 5 then t else 0) else 0) + (if K 6 = true then (if e = 18 + 6 then t else 0) else 0) = if 20 ≤ e ∧ e ≤ 24 ∧ K (e - 18) = true then t else 0 := by
  by_cases h : 20 ≤ e ∧ e ≤ 24
  · have q : e = 20 ∨ e = 21 ∨ e = 22 ∨ e = 23 ∨ e = 24 := by omega
    rcases q with rfl | rfl | rfl | rfl | rfl <;> simp
  · rw [if_neg (show ¬ e = 18 + 2 by omega), if_neg (show ¬ e = 18 + 3 by omega), if_neg (show ¬ e = 18 + 4 by omega), if_neg (show ¬ e = 18 + 5 by omega), if_neg (show ¬ e = 18 + 6 by omega), if_neg (show ¬ (20 ≤ e ∧ e ≤ 24 ∧ K (e - 18) = true) from fun q => h ⟨q.1, q.2.1⟩)]
    simp
theorem pK_eq (E : Nat → Nat) (L : Nat → Nat → Nat) (K : Nat → Bool) (a b : Nat) : ∀ c, (if K 2 = true then pfS E L 2 a b c else 0) + (if K 3 = true then pfS E L 3 a b c else 0) + (if K 4 = true then pfS E L 4 a b c else 0) + (if K 5 = true then pfS E L 5 a b c else 0) + (if K 6 = true then pfS E L 6 a b c else 0) = pK E L K a b c
  | 0 => by
    show (if K 2 = true then 0 else 0) + (if K 3 = true then 0 else 0) + (if K 4 = true then 0 else 0) + (if K 5 = true then 0 else 0) + (if K 6 = true then 0 else 0) = 0
    simp
  | c + 1 => by
    have ih := pK_eq E L K a b c
    have e : ∀ k, pfS E L k a b (c + 1) = pfS E L k a b c + (if E (a + 1 + c) = 18 + k then tmW (L a (a + 1 + c)) (L (a + 1 + c + 1) b) else 0) := fun _ => rfl
    have h1 := one_k K (E (a + 1 + c)) (tmW (L a (a + 1 + c)) (L (a + 1 + c + 1) b))
    rw [e 2, e 3, e 4, e 5, e 6, ite_add, ite_add, ite_add, ite_add, ite_add]
    show _ = pK E L K a b c + _
    omega
/-- which KIND but a pair the words' ends allow; 10: none -/
def keV (E : Nat → Nat) (G : Nat → Int32) (i j : Nat) : Nat :=
  if E i < 10 then (if G (E i) = 0 then (if j - i = 1 then 0 else 10) else (if 2 < j - i ∧ E (i + 1) = 28 then 9 else 10))
  else if E i = 25 then (if 1 < j - i then 7 else 10)
  else if E i = 26 then (if 2 < j - i ∧ E (j - 1) = 27 then 8 else 10)
  else if isNumB E i j = true then 1 else 10
def pfN (k i : Nat) : Nat := if k = 9 then i + 2 else i + 1
def ptN (k j : Nat) : Nat := if k = 8 then j - 1 else j
def neV (E : Nat → Nat) (G : Nat → Int32) (L : Nat → Nat → Nat) (K : Nat → Bool) (i j : Nat) : Nat :=
  if keV E G i j = 10 ∨ ¬ K (keV E G i j) = true then 0 else if keV E G i j ≤ 1 then 1 else L (pfN (keV E G i j) i) (ptN (keV E G i j) j)
theorem keV_c {E : Nat → Nat} {G : Nat → Int32} {i j : Nat} (hij : i < j) (L : Nat → Nat → Nat) (k : Nat) (hk : k < 2 ∨ (7 ≤ k ∧ k < 10)) : wi E G L k i j = if keV E G i j = k then (if k ≤ 1 then 1 else L (pfN k i) (ptN k j)) else 0 := by
  have hn : isNumB E i j = true → 10 ≤ E i ∧ E i ≤ 19 := fun h => (isNumB_at h).2.2 i (Nat.le_refl _) hij
  have w0 := wi_0 (E := E) (G := G) (L := L) hij
  have w1 := wi_1 (E := E) (G := G) (L := L) hij
  have w7 := wi_7 (E := E) (G := G) (L := L) hij
  have w8 := wi_8 (E := E) (G := G) (L := L) hij
  have w9 := wi_9 (E := E) (G := G) (L := L) hij
  have q : k = 0 ∨ k = 1 ∨ k = 7 ∨ k = 8 ∨ k = 9 := by omega
  unfold keV
  by_cases h : E i < 10
  · have n1 : ¬ isNumB E i j = true := fun e => by have := hn e; omega
    have n7 : ¬ E i = 25 := by omega
    have n8 : ¬ E i = 26 := by omega
    by_cases g : G (E i) = 0
    · by_cases w : j - i = 1
      · rcases q with rfl | rfl | rfl | rfl | rfl
        · rw [w0]; simp [h, g, w]
        · rw [w1]; simp [h, g, w, n1]
        · rw [w7]; simp [h, g, w, n7]
        · rw [w8]; simp [h, g, w, n8]
        · rw [w9]; simp [h, g, w]
      · rcases q with rfl | rfl | rfl | rfl | rfl
        · rw [w0]; simp [h, g, w]
        · rw [w1]; simp [h, g, w, n1]
        · rw [w7]; simp [h, g, w, n7]
        · rw [w8]; simp [h, g, w, n8]
        · rw [w9]; simp [h, g, w]
    · by_cases w : 2 < j - i ∧ E (i + 1) = 28
      · rcases q with rfl | rfl | rfl | rfl | rfl
        · rw [w0]; simp [h, g, w]
        · rw [w1]; simp [h, g, w, n1]
        · rw [w7]; simp [h, g, w, n7]
        · rw [w8]; simp [h, g, w, n8]
        · rw [w9]; simp [h, g, w, pfN, ptN]
      · rcases q with rfl | rfl | rfl | rfl | rfl
        · rw [w0]; simp [h, g, w]
        · rw [w1]; simp [h, g, w, n1]
        · rw [w7]; simp [h, g, w, n7]
        · rw [w8]; simp [h, g, w, n8]
        · rw [w9, if_neg (show ¬ (E i < 10 ∧ ¬ G (E i) = 0 ∧ 2 < j - i ∧ E (i + 1) = 28) from fun q => w q.2.2)]; simp [h, g, w]
  · rw [if_neg h]
    have n0 : ¬ (j - i = 1 ∧ E i < 10 ∧ G (E i) = 0) := fun q => h q.2.1
    have n9 : ¬ (E i < 10 ∧ ¬ G (E i) = 0 ∧ 2 < j - i ∧ E (i + 1) = 28) := fun q => h q.1
    rw [if_neg n0] at w0
    rw [if_neg n9] at w9
    by_cases h7 : E i = 25
    · have n1 : ¬ isNumB E i j = true := fun e => by have := hn e; omega
      have n8 : ¬ E i = 26 := by omega
      rw [if_neg n1] at w1
      rw [if_neg (show ¬ (E i = 26 ∧ E (j - 1) = 27 ∧ 2 < j - i) from fun q => n8 q.1)] at w8
      rw [if_pos h7]
      by_cases w : 1 < j - i
      · rw [if_pos (show E i = 25 ∧ 1 < j - i from ⟨h7, w⟩)] at w7
        rw [if_pos w]
        rcases q with rfl | rfl | rfl | rfl | rfl
        · rw [w0]; rfl
        · rw [w1]; rfl
        · rw [w7]; rfl
        · rw [w8]; rfl
        · rw [w9]; rfl
      · rw [if_neg (show ¬ (E i = 25 ∧ 1 < j - i) from fun q => w q.2)] at w7
        rw [if_neg w]
        rcases q with rfl | rfl | rfl | rfl | rfl
        · rw [w0]; rfl
        · rw [w1]; rfl
        · rw [w7]; rfl
        · rw [w8]; rfl
        · rw [w9]; rfl
    · rw [if_neg h7]
      rw [if_neg (show ¬ (E i = 25 ∧ 1 < j - i) from fun q => h7 q.1)] at w7
      by_cases h8 : E i = 26
      · have n1 : ¬ isNumB E i j = true := fun e => by have := hn e; omega
        rw [if_neg n1] at w1
        rw [if_pos h8]
        by_cases w : 2 < j - i ∧ E (j - 1) = 27
        · rw [if_pos (show E i = 26 ∧ E (j - 1) = 27 ∧ 2 < j - i from ⟨h8, w.2, w.1⟩)] at w8
          rw [if_pos w]
          rcases q with rfl | rfl | rfl | rfl | rfl
          · rw [w0]; rfl
          · rw [w1]; rfl
          · rw [w7]; rfl
          · rw [w8]; rfl
          · rw [w9]; rfl
        · rw [if_neg (show ¬ (E i = 26 ∧ E (j - 1) = 27 ∧ 2 < j - i) from fun q => w ⟨q.2.2, q.2.1⟩)] at w8
          rw [if_neg w]
          rcases q with rfl | rfl | rfl | rfl | rfl
          · rw [w0]; rfl
          · rw [w1]; rfl
          · rw [w7]; rfl
          · rw [w8]; rfl
          · rw [w9]; rfl
      · rw [if_neg h8]
        rw [if_neg (show ¬ (E i = 26 ∧ E (j - 1) = 27 ∧ 2 < j - i) from fun q => h8 q.1)] at w8
        by_cases n1 : isNumB E i j = true
        · rw [if_pos n1] at w1
          rw [if_pos n1]
          rcases q with rfl | rfl | rfl | rfl | rfl
          · rw [w0]; rfl
          · rw [w1]; rfl
          · rw [w7]; rfl
          · rw [w8]; rfl
          · rw [w9]; rfl
        · rw [if_neg n1] at w1
          rw [if_neg n1]
          rcases q with rfl | rfl | rfl | rfl | rfl
          · rw [w0]; rfl
          · rw [w1]; rfl
          · rw [w7]; rfl
          · rw [w8]; rfl
          · rw [w9]; rfl
theorem keV_in (E : Nat → Nat) (G : Nat → Int32) (i j : Nat) : keV E G i j = 0 ∧ j - i = 1 ∨ keV E G i j = 1 ∨ keV E G i j = 7 ∧ 1 < j - i ∨ keV E G i j = 8 ∧ 2 < j - i ∨ keV E G i j = 9 ∧ 2 < j - i ∨ keV E G i j = 10 := by
  unfold keV
  split
  · split
    · split <;> omega
    · split <;> omega
  · split
    · split <;> omega
    · split
      · split <;> omega
      · split <;> omega
theorem neV_eq {E : Nat → Nat} {G : Nat → Int32} {i j : Nat} (hij : i < j) (L : Nat → Nat → Nat) (K : Nat → Bool) : (if K 0 = true then wi E G L 0 i j else 0) + (if K 1 = true then wi E G L 1 i j else 0) + (if K 7 = true then wi E G L 7 i j else 0) + (if K 8 = true then wi E G L 8 i j else 0) + (if K 9 = true then wi E G L 9 i j else 0) = neV E G L K i j := by
  rw [keV_c hij L 0 (by decide), keV_c hij L 1 (by decide), keV_c hij L 7 (by decide), keV_c hij L 8 (by decide), keV_c hij L 9 (by decide)]
  unfold neV
  rcases keV_in E G i j with e | e | e | e | e | e
  · rw [e.1]; cases h : K 0 <;> simp
  · rw [e]; cases h : K 1 <;> simp
  · rw [e.1]; cases h : K 7 <;> simp
  · rw [e.1]; cases h : K 8 <;> simp
  · rw [e.1]; cases h : K 9 <;> simp
  · rw [e]; simp
/-- shorter spans have few READINGS -/
def BD (L : Nat → Nat → Nat) (i j : Nat) : Prop := ∀ a b, i ≤ a → a < b → b ≤ j → b - a < j - i → L a b ≤ 5 ^ (b - a - 1)
theorem pow5 {n m : Nat} (h : n ≤ m) : 5 ^ n ≤ 5 ^ m := Nat.pow_le_pow_right (by decide) h
theorem tm_5 {L : Nat → Nat → Nat} {i j c : Nat} (h : BD L i j) (hc : i + 1 + c + 1 < j) : L i (i + 1 + c) * L (i + 1 + c + 1) j ≤ 5 ^ (j - i - 3) := by
  have h1 := h i (i + 1 + c) (Nat.le_refl _) (by omega) (by omega) (by omega)
  have h2 := h (i + 1 + c + 1) j (by omega) (by omega) (Nat.le_refl _) (by omega)
  refine Nat.le_trans (Nat.mul_le_mul h1 h2) ?_
  rw [← Nat.pow_add]
  exact pow5 (by omega)
theorem pow5_cap {n : Nat} (h : n ≤ 17) : 18 * 5 ^ n ≤ cap := by
  have := Nat.mul_le_mul_left 18 (pow5 h)
  exact Nat.le_trans this (by decide)
theorem pK_le {E : Nat → Nat} {L : Nat → Nat → Nat} {K : Nat → Bool} {i j : Nat} (h : BD L i j) : ∀ c, i + 1 + c < j → pK E L K i j c ≤ c * 5 ^ (j - i - 3)
  | 0, _ => Nat.zero_le _
  | c + 1, hc => by
    have ih := pK_le (E := E) (K := K) h c (by omega)
    show pK E L K i j c + _ ≤ _
    rw [Nat.succ_mul]
    split
    · exact Nat.add_le_add ih (Nat.le_trans (tmW_le _ _).2 (tm_5 h (by omega)))
    · exact Nat.le_trans ih (Nat.le_add_right _ _)
theorem pfS_pK {E : Nat → Nat} {L : Nat → Nat → Nat} {k a b : Nat} (k2 : 2 ≤ k) (k6 : k ≤ 6) (c : Nat) : pfS E L k a b c ≤ pK E L (fun _ => true) a b c := by
  have h := pK_eq E L (fun _ => true) a b c
  simp only [if_true] at h
  have q : k = 2 ∨ k = 3 ∨ k = 4 ∨ k = 5 ∨ k = 6 := by omega
  rcases q with rfl | rfl | rfl | rfl | rfl <;> omega
theorem pfS_cap {E : Nat → Nat} {L : Nat → Nat → Nat} {k i j : Nat} (h : BD L i j) (hij : i < j) (hw : j - i ≤ 20) (k2 : 2 ≤ k) (k6 : k ≤ 6) : pfS E L k i j (j - 1 - (i + 1)) ≤ cap := by
  rcases Nat.lt_or_ge (j - i) 3 with g | g
  · rw [show j - 1 - (i + 1) = 0 by omega]
    exact Nat.zero_le _
  · refine Nat.le_trans (pfS_pK k2 k6 _) (Nat.le_trans (pK_le h _ (by omega)) (Nat.le_trans ?_ (pow5_cap (n := j - i - 3) (by omega))))
    exact Nat.mul_le_mul_right _ (by omega)
theorem wi_pf {E : Nat → Nat} {G : Nat → Int32} {L : Nat → Nat → Nat} {k i j : Nat} (h : BD L i j) (hij : i < j) (hw : j - i ≤ 20) (k2 : 2 ≤ k) (k6 : k ≤ 6) : wi E G L k i j = pfS E L k i j (j - 1 - (i + 1)) := by
  rw [wi_2 hij k2 k6]
  have := wiP_eq (E := E) (L := L) (k := k) (a := i) (b := j) (j - 1 - (i + 1)) 0 0 rfl (by rw [Nat.zero_add]; exact pfS_cap h hij hw k2 k6)
  rwa [Nat.zero_add] at this
theorem bS_eq {E : Nat → Nat} {G : Nat → Int32} {L : Nat → Nat → Nat} {i j : Nat} (h : BD L i j) (hij : i < j) (hw : j - i ≤ 20) (K : Nat → Bool) : bS E G L K i j = pK E L K i j (j - 1 - (i + 1)) + neV E G L K i j := by
  have h1 := pK_eq E L K i j (j - 1 - (i + 1))
  have h2 := neV_eq (E := E) (G := G) hij L K
  rw [← h1, ← h2]
  rw [← wi_pf (E := E) (G := G) h hij hw (k := 2) (by decide) (by decide), ← wi_pf (E := E) (G := G) h hij hw (k := 3) (by decide) (by decide), ← wi_pf (E := E) (G := G) h hij hw (k := 4) (by decide) (by decide), ← wi_pf (E := E) (G := G) h hij hw (k := 5) (by decide) (by decide), ← wi_pf (E := E) (G := G) h hij hw (k := 6) (by decide) (by decide)]
  show 0 + (if K 0 = true then wi E G L 0 i j else 0) + (if K 1 = true then wi E G L 1 i j else 0) + (if K 2 = true then wi E G L 2 i j else 0) + (if K 3 = true then wi E G L 3 i j else 0) + (if K 4 = true then wi E G L 4 i j else 0) + (if K 5 = true then wi E G L 5 i j else 0) + (if K 6 = true then wi E G L 6 i j else 0) + (if K 7 = true then wi E G L 7 i j else 0) + (if K 8 = true then wi E G L 8 i j else 0) + (if K 9 = true then wi E G L 9 i j else 0) = _
  omega
def hB5 (w : Nat) : Nat := if w < 3 then 1 else 23 * 5 ^ (w - 3)
theorem neV_le {E : Nat → Nat} {G : Nat → Int32} {L : Nat → Nat → Nat} {K : Nat → Bool} {i j : Nat} (h : BD L i j) (hij : i < j) : neV E G L K i j ≤ 5 ^ (j - i - 2) := by
  have one : 1 ≤ 5 ^ (j - i - 2) := Nat.one_le_pow _ _ (by decide)
  unfold neV
  split
  · exact Nat.zero_le _
  · split
    · exact one
    · have hL : ∀ a b, i < a → a < b → b ≤ j → L a b ≤ 5 ^ (j - i - 2) := fun a b h1 h2 h3 => Nat.le_trans (h a b (by omega) h2 h3 (by omega)) (pow5 (by omega))
      rcases keV_in E G i j with e | e | e | e | e | e
      · omega
      · omega
      · rw [e.1]; exact hL _ _ (by show i < i + 1; omega) (by show i + 1 < j; omega) (Nat.le_refl _)
      · rw [e.1]; exact hL _ _ (by show i < i + 1; omega) (by show i + 1 < j - 1; omega) (by show j - 1 ≤ j; omega)
      · rw [e.1]; exact hL _ _ (by show i < i + 2; omega) (by show i + 2 < j; omega) (Nat.le_refl _)
      · omega
theorem bS_le {E : Nat → Nat} {G : Nat → Int32} {L : Nat → Nat → Nat} {i j : Nat} (h : BD L i j) (hij : i < j) (hw : j - i ≤ 20) (K : Nat → Bool) : bS E G L K i j ≤ hB5 (j - i) := by
  rw [bS_eq h hij hw K]
  have h2 := neV_le (E := E) (G := G) (K := K) h hij
  unfold hB5
  split
  · rename_i g
    rw [show j - 1 - (i + 1) = 0 by omega]
    rw [show j - i - 2 = 0 by omega] at h2
    show 0 + _ ≤ 1
    omega
  · rename_i g
    have h1 := pK_le (E := E) (K := K) h (j - 1 - (i + 1)) (by omega)
    have h3 : (j - 1 - (i + 1)) * 5 ^ (j - i - 3) ≤ 18 * 5 ^ (j - i - 3) := Nat.mul_le_mul_right _ (by omega)
    rw [show j - i - 2 = j - i - 3 + 1 by omega, Nat.pow_succ] at h2
    omega
/-- READINGS of the words i .. j of each sort c: KIND c / 2, KEPT or not -/
def mG (E : Nat → Nat) (G : Nat → Int32) (lt : Nat → Nat → Bool) (L : Nat → Nat → Nat) (i j c : Nat) : Nat := if lt (c / 2) (c % 2) = true ∧ (c % 2 = 0 ∨ (E i = 29 ∧ E (j - 1) = 30)) then wi E G L (c / 2) (i + c % 2) (j - c % 2) else 0
theorem mG_e {E : Nat → Nat} {G : Nat → Int32} {lt : Nat → Nat → Bool} {L : Nat → Nat → Nat} {i j : Nat} (k : Nat) : mG E G lt L i j (2 * k) = if lt k 0 = true then wi E G L k i j else 0 := by
  unfold mG
  rw [show 2 * k / 2 = k by omega, show 2 * k % 2 = 0 by omega]
  by_cases h : lt k 0 = true
  · rw [if_pos ⟨h, Or.inl rfl⟩, if_pos h]
    rfl
  · rw [if_neg (fun q => h q.1), if_neg h]
theorem mG_o {E : Nat → Nat} {G : Nat → Int32} {lt : Nat → Nat → Bool} {L : Nat → Nat → Nat} {i j : Nat} (k : Nat) : mG E G lt L i j (2 * k + 1) = if E i = 29 ∧ E (j - 1) = 30 then (if lt k 1 = true then wi E G L k (i + 1) (j - 1) else 0) else 0 := by
  unfold mG
  rw [show (2 * k + 1) / 2 = k by omega, show (2 * k + 1) % 2 = 1 by omega]
  by_cases h : lt k 1 = true
  · by_cases g : E i = 29 ∧ E (j - 1) = 30
    · rw [if_pos ⟨h, Or.inr g⟩, if_pos g, if_pos h]
    · rw [if_neg (fun q => q.2.elim (by decide) g), if_neg g]
  · rw [if_neg (fun q => h q.1)]
    rw [if_neg h]
    split <;> rfl
abbrev brE (E : Nat → Nat) (i j : Nat) : Prop := E i = 29 ∧ E (j - 1) = 30
theorem sW_mG (E : Nat → Nat) (G : Nat → Int32) (lt : Nat → Nat → Bool) (L : Nat → Nat → Nat) (i j : Nat) : ∀ c, sW (mG E G lt L i j) (2 * c) = kS (fun k => lt k 0) (fun k => wi E G L k i j) c + if brE E i j then kS (fun k => lt k 1) (fun k => wi E G L k (i + 1) (j - 1)) c else 0
  | 0 => by
    show 0 = 0 + if brE E i j then 0 else 0
    split <;> rfl
  | c + 1 => by
    show sW (mG E G lt L i j) (2 * c) + mG E G lt L i j (2 * c) + mG E G lt L i j (2 * c + 1) = (kS (fun k => lt k 0) (fun k => wi E G L k i j) c + (if lt c 0 = true then wi E G L c i j else 0)) + if brE E i j then kS (fun k => lt k 1) (fun k => wi E G L k (i + 1) (j - 1)) c + (if lt c 1 = true then wi E G L c (i + 1) (j - 1) else 0) else 0
    rw [sW_mG E G lt L i j c, mG_e, mG_o]
    by_cases g : brE E i j
    · simp only [if_pos g]
      omega
    · simp only [if_neg g]
      omega
/-- all READINGS of a span -/
def tS (E : Nat → Nat) (G : Nat → Int32) (lt : Nat → Nat → Bool) (L : Nat → Nat → Nat) (i j : Nat) : Nat := bS E G L (fun k => lt k 0) i j + if brE E i j then bS E G L (fun k => lt k 1) (i + 1) (j - 1) else 0
theorem sW_tS (E : Nat → Nat) (G : Nat → Int32) (lt : Nat → Nat → Bool) (L : Nat → Nat → Nat) (i j : Nat) : sW (mG E G lt L i j) 20 = tS E G lt L i j := sW_mG E G lt L i j 10
theorem kS_0 {K : Nat → Bool} {w : Nat → Nat} (h : ∀ k, w k = 0) : ∀ c, kS K w c = 0
  | 0 => rfl
  | c + 1 => by
    show kS K w c + _ = 0
    rw [kS_0 h c, h c]
    split <;> rfl
theorem bS_n {E : Nat → Nat} {G : Nat → Int32} {L : Nat → Nat → Nat} {i j : Nat} (K : Nat → Bool) (h : j ≤ i) : bS E G L K i j = 0 := kS_0 (fun _ => wi_n h) 10
theorem BD_in {L : Nat → Nat → Nat} {i j i' j' : Nat} (h : BD L i j) (h1 : i ≤ i') (h2 : j' ≤ j) : BD L i' j' := fun a b q1 q2 q3 q4 => h a b (by omega) q2 (by omega) (by omega)
theorem tS_le {E : Nat → Nat} {G : Nat → Int32} {L : Nat → Nat → Nat} {i j : Nat} (h : BD L i j) (hij : i < j) (hw : j - i ≤ 20) (lt : Nat → Nat → Bool) : tS E G lt L i j ≤ 5 ^ (j - i - 1) := by
  unfold tS
  have h1 := bS_le (E := E) (G := G) h hij hw (fun k => lt k 0)
  have h2 : (if brE E i j then bS E G L (fun k => lt k 1) (i + 1) (j - 1) else 0) ≤ if 2 < j - i then hB5 (j - i - 2) else 0 := by
    split
    · split
      · have := bS_le (E := E) (G := G) (i := i + 1) (j := j - 1) (BD_in h (by omega) (by omega)) (by omega) (by omega) (fun k => lt k 1)
        rwa [show j - 1 - (i + 1) = j - i - 2 by omega] at this
      · rw [bS_n _ (by omega)]
        exact Nat.le_refl _
    · exact Nat.zero_le _
  unfold hB5 at h1 h2
  rcases Nat.lt_or_ge (j - i) 3 with g | g
  · rw [if_pos g] at h1
    rw [if_neg (show ¬ 2 < j - i by omega)] at h2
    have : 1 ≤ 5 ^ (j - i - 1) := Nat.one_le_pow _ _ (by decide)
    omega
  · rw [if_neg (show ¬ j - i < 3 by omega)] at h1
    rw [if_pos (show 2 < j - i by omega)] at h2
    have e1 : 5 ^ (j - i - 1) = 25 * 5 ^ (j - i - 3) := by
      rw [show j - i - 1 = j - i - 3 + 2 by omega, Nat.pow_add]
      omega
    have e2 : 1 ≤ 5 ^ (j - i - 3) := Nat.one_le_pow _ _ (by decide)
    rcases Nat.lt_or_ge (j - i - 2) 3 with g2 | g2
    · rw [if_pos g2] at h2
      omega
    · rw [if_neg (show ¬ j - i - 2 < 3 by omega)] at h2
      have e3 : 5 ^ (j - i - 3) = 25 * 5 ^ (j - i - 2 - 3) := by
        rw [show j - i - 3 = j - i - 2 - 3 + 2 by omega, Nat.pow_add]
        omega
      omega
theorem pow5_cap1 {n : Nat} (h : n ≤ 19) : 5 ^ n ≤ cap := Nat.le_trans (pow5 h) (by decide)
/-- counts that are consistent are small, and no cap was reached -/
theorem L_le {E : Nat → Nat} {G : Nat → Int32} {lt : Nat → Nat → Bool} {L : Nat → Nat → Nat} {h : Nat} (hh : h ≤ 20) (hL : ∀ i j, i < j → j ≤ h → L i j = csW (mG E G lt L i j) 20) : ∀ (d i j : Nat), i < j → j ≤ h → j - i ≤ d → L i j ≤ 5 ^ (j - i - 1) ∧ L i j = tS E G lt L i j
  | 0, i, j, h1, h2, h3 => absurd h1 (by omega)
  | d + 1, i, j, h1, h2, h3 => by
    have hb : BD L i j := fun a b q1 q2 q3 q4 => (L_le hh hL d a b q2 (by omega) (by omega)).1
    have ht := tS_le (E := E) (G := G) hb h1 (by omega) lt
    have e : L i j = tS E G lt L i j := by
      rw [hL i j h1 h2, csW_eq 20 (by rw [sW_tS]; exact Nat.le_trans ht (pow5_cap1 (by omega))), sW_tS]
    exact ⟨by rw [e]; exact ht, e⟩
theorem mG_cg {E : Nat → Nat} {G : Nat → Int32} {lt : Nat → Nat → Bool} {L L' : Nat → Nat → Nat} {i j c : Nat} (e : ∀ a b, i ≤ a → a < b → b ≤ j → b - a < j - i → L a b = L' a b) : mG E G lt L i j c = mG E G lt L' i j c := by
  unfold mG
  split
  · exact wi_cg (fun a b h1 h2 h3 h4 => e a b (by omega) h2 (by omega) (by omega))
  · rfl
theorem sW_cg {g g' : Nat → Nat} : ∀ c, (∀ d, d < c → g d = g' d) → sW g c = sW g' c
  | 0, _ => rfl
  | c + 1, h => by
    show sW g c + g c = sW g' c + g' c
    rw [sW_cg c (fun d hd => h d (by omega)), h c (by omega)]
theorem tS_cg {E : Nat → Nat} {G : Nat → Int32} {lt : Nat → Nat → Bool} {L L' : Nat → Nat → Nat} {i j : Nat} (e : ∀ a b, i ≤ a → a < b → b ≤ j → b - a < j - i → L a b = L' a b) : tS E G lt L i j = tS E G lt L' i j := by
  rw [← sW_tS, ← sW_tS]
  exact sW_cg 20 (fun d _ => mG_cg e)
theorem L_uq {E : Nat → Nat} {G : Nat → Int32} {lt : Nat → Nat → Bool} {L L' : Nat → Nat → Nat} {h : Nat} (hL : ∀ i j, i < j → j ≤ h → L i j = tS E G lt L i j) (hL' : ∀ i j, i < j → j ≤ h → L' i j = tS E G lt L' i j) : ∀ (d i j : Nat), i < j → j ≤ h → j - i ≤ d → L i j = L' i j
  | 0, i, j, h1, h2, h3 => absurd h1 (by omega)
  | d + 1, i, j, h1, h2, h3 => by
    rw [hL i j h1 h2, hL' i j h1 h2]
    exact tS_cg (fun a b q1 q2 q3 q4 => L_uq hL hL' d a b q2 (by omega) (by omega))
end
section
/-- the NUMBER that words say -/
def nvN (E : Nat → Nat) : Nat → Nat → Nat → Nat
  | 0, _, t => t
  | c + 1, m, t => nvN E c (m + 1) (10 * t + E m - 10)
/-- a row of KINDS and v's, each PART ahead of what it is a PART of, that reads the words a .. b by a KIND k, PLACE q -/
def RK (E : Nat → Nat) (L : Nat → Nat → Nat) (R : Nat → Nat → Nat → List (Nat × Nat) → Prop) (k a b q : Nat) (T : List (Nat × Nat)) : Prop :=
  (k < 2 ∧ T = [(k, if k = 0 then E a else nvN E (b - a) a 0)]) ∨
  (7 ≤ k ∧ ∃ X, T = X ++ [(k, E a)] ∧ R (pfN k a) (ptN k b) q X) ∨
  (2 ≤ k ∧ k ≤ 6 ∧ ∃ c r X Y, a + 1 + c + 1 < b ∧ E (a + 1 + c) = 18 + k ∧ q = pfS E L k a b c + r ∧ r < tmW (L a (a + 1 + c)) (L (a + 1 + c + 1) b) ∧ T = X ++ Y ++ [(k, 0)] ∧ R a (a + 1 + c) (r / L (a + 1 + c + 1) b) X ∧ R (a + 1 + c + 1) b (r % L (a + 1 + c + 1) b) Y)
/-- such a row is READING p of the words i .. j -/
def RT (E : Nat → Nat) (M : Nat → Nat → Nat → Nat) (L : Nat → Nat → Nat) : Nat → Nat → Nat → Nat → List (Nat × Nat) → Prop
  | 0, _, _, _, _ => False
  | f + 1, i, j, p, T => ∃ c q, c < 20 ∧ p = sW (M i j) c + q ∧ q < M i j c ∧ RK E L (RT E M L f) (c / 2) (i + c % 2) (j - c % 2) q T
theorem sW_mono (g : Nat → Nat) (d : Nat) : ∀ c, sW g d ≤ sW g (d + c)
  | 0 => Nat.le_refl _
  | c + 1 => Nat.le_trans (sW_mono g d c) (Nat.le_add_right _ _)
theorem sW_uq {g : Nat → Nat} {c q c' q' : Nat} (h : sW g c + q = sW g c' + q') (hq : q < g c) (hq' : q' < g c') : c = c' ∧ q = q' := by
  rcases Nat.lt_trichotomy c c' with e | e | e
  · have := sW_mono g (c + 1) (c' - (c + 1))
    rw [show c + 1 + (c' - (c + 1)) = c' by omega] at this
    have h2 : sW g (c + 1) = sW g c + g c := rfl
    omega
  · subst e
    exact ⟨rfl, by omega⟩
  · have := sW_mono g (c' + 1) (c - (c' + 1))
    rw [show c' + 1 + (c - (c' + 1)) = c by omega] at this
    have h2 : sW g (c' + 1) = sW g c' + g c' := rfl
    omega
theorem pfS_at {E : Nat → Nat} {L : Nat → Nat → Nat} {k a b c : Nat} (h : E (a + 1 + c) = 18 + k) : pfS E L k a b (c + 1) = pfS E L k a b c + tmW (L a (a + 1 + c)) (L (a + 1 + c + 1) b) := by
  show pfS E L k a b c + _ = _
  rw [if_pos h]
theorem pfS_uq {E : Nat → Nat} {L : Nat → Nat → Nat} {k a b c r c' r' : Nat} (h : pfS E L k a b c + r = pfS E L k a b c' + r') (he : E (a + 1 + c) = 18 + k) (he' : E (a + 1 + c') = 18 + k) (hr : r < tmW (L a (a + 1 + c)) (L (a + 1 + c + 1) b)) (hr' : r' < tmW (L a (a + 1 + c')) (L (a + 1 + c' + 1) b)) : c = c' ∧ r = r' := by
  rcases Nat.lt_trichotomy c c' with e | e | e
  · have := pfS_mono (E := E) (L := L) (k := k) (a := a) (b := b) (c + 1) (c' - (c + 1))
    rw [show c + 1 + (c' - (c + 1)) = c' by omega, pfS_at he] at this
    omega
  · subst e
    exact ⟨rfl, by omega⟩
  · have := pfS_mono (E := E) (L := L) (k := k) (a := a) (b := b) (c' + 1) (c - (c' + 1))
    rw [show c' + 1 + (c - (c' + 1)) = c by omega, pfS_at he'] at this
    omega
/-- a PLACE has one READING -/
theorem RT_uq {E : Nat → Nat} {M : Nat → Nat → Nat → Nat} {L : Nat → Nat → Nat} : ∀ (f i j p : Nat) (T T' : List (Nat × Nat)), RT E M L f i j p T → RT E M L f i j p T' → T = T'
  | 0, _, _, _, _, _, h, _ => h.elim
  | f + 1, i, j, p, T, T', ⟨c, q, h1, h2, h3, h4⟩, ⟨c', q', g1, g2, g3, g4⟩ => by
    obtain ⟨e1, e2⟩ := sW_uq (h2.symm.trans g2) h3 g3
    subst e1 e2
    rcases h4 with ⟨a1, a2⟩ | ⟨a1, X, a2, a3⟩ | ⟨a1, a2, d, r, X, Y, b1, b2, b3, b4, b5, b6, b7⟩
    · rcases g4 with ⟨k1, k2⟩ | ⟨k1, _⟩ | ⟨k1, _⟩
      · rw [a2, k2]
      · omega
      · omega
    · rcases g4 with ⟨k1, k2⟩ | ⟨k1, X', k2, k3⟩ | ⟨k1, k2, _⟩
      · omega
      · rw [a2, k2, RT_uq f _ _ _ _ _ a3 k3]
      · omega
    · rcases g4 with ⟨k1, k2⟩ | ⟨k1, _⟩ | ⟨k1, k2, d', r', X', Y', c1, c2, c3, c4, c5, c6, c7⟩
      · omega
      · omega
      · obtain ⟨e1, e2⟩ := pfS_uq (b3.symm.trans c3) b2 c2 b4 c4
        subst e1 e2
        rw [b5, c5, RT_uq f _ _ _ _ _ b6 c6, RT_uq f _ _ _ _ _ b7 c7]
theorem sW_find {g : Nat → Nat} {p : Nat} : ∀ n, p < sW g n → ∃ c q, c < n ∧ p = sW g c + q ∧ q < g c
  | 0, h => absurd h (Nat.not_lt_zero _)
  | n + 1, h => by
    rcases Nat.lt_or_ge p (sW g n) with e | e
    · obtain ⟨c, q, h1, h2, h3⟩ := sW_find n e
      exact ⟨c, q, by omega, h2, h3⟩
    · have h2 : sW g (n + 1) = sW g n + g n := rfl
      exact ⟨n, p - sW g n, by omega, by omega, by omega⟩
theorem pfS_find {E : Nat → Nat} {L : Nat → Nat → Nat} {k a b p : Nat} : ∀ n, p < pfS E L k a b n → ∃ c r, c < n ∧ E (a + 1 + c) = 18 + k ∧ p = pfS E L k a b c + r ∧ r < tmW (L a (a + 1 + c)) (L (a + 1 + c + 1) b)
  | 0, h => absurd h (Nat.not_lt_zero _)
  | n + 1, h => by
    rcases Nat.lt_or_ge p (pfS E L k a b n) with e | e
    · obtain ⟨c, q, h1, h2⟩ := pfS_find n e
      exact ⟨c, q, by omega, h2⟩
    · have h2 : pfS E L k a b (n + 1) = pfS E L k a b n + (if E (a + 1 + n) = 18 + k then tmW (L a (a + 1 + n)) (L (a + 1 + n + 1) b) else 0) := rfl
      split at h2
      · rename_i g
        exact ⟨n, p - pfS E L k a b n, by omega, g, by omega, by omega⟩
      · omega
theorem tm_dm {x y r : Nat} (h : r < tmW x y) : 0 < y ∧ r / y < x ∧ r % y < y := by
  have ht := (tmW_le x y).2
  have h0 : 0 < y := by
    rcases Nat.eq_zero_or_pos y with e | e
    · rw [e, Nat.mul_zero] at ht
      rw [e] at h
      omega
    · exact e
  exact ⟨h0, (Nat.div_lt_iff_lt_mul h0).mpr (by omega), Nat.mod_lt _ h0⟩
theorem mG_pos {E : Nat → Nat} {G : Nat → Int32} {lt : Nat → Nat → Bool} {L : Nat → Nat → Nat} {i j c p : Nat} (h : p < mG E G lt L i j c) : p < wi E G L (c / 2) (i + c % 2) (j - c % 2) ∧ lt (c / 2) (c % 2) = true ∧ (c % 2 = 0 ∨ (E i = 29 ∧ E (j - 1) = 30)) := by
  unfold mG at h
  split at h
  · rename_i e
    exact ⟨h, e⟩
  · omega
theorem wi_un {E : Nat → Nat} {G : Nat → Int32} {L : Nat → Nat → Nat} {k a b p : Nat} (k7 : 7 ≤ k) (k9 : k < 10) (h : p < wi E G L k a b) : a < b ∧ p < L (pfN k a) (ptN k b) ∧ a < pfN k a ∧ pfN k a < ptN k b ∧ ptN k b ≤ b ∧ keV E G a b = k := by
  have hab : a < b := by
    rcases Nat.lt_or_ge a b with e | e
    · exact e
    · rw [wi_n e] at h
      omega
  rw [keV_c hab L k (by omega)] at h
  split at h
  · rename_i e
    rw [if_neg (by omega)] at h
    have q : k = 7 ∨ k = 8 ∨ k = 9 := by omega
    have w := keV_in E G a b
    refine ⟨hab, h, ?_⟩
    rcases q with rfl | rfl | rfl
    · exact ⟨by show a < a + 1; omega, by show a + 1 < b; omega, Nat.le_refl _, e⟩
    · exact ⟨by show a < a + 1; omega, by show a + 1 < b - 1; omega, by show b - 1 ≤ b; omega, e⟩
    · exact ⟨by show a < a + 2; omega, by show a + 2 < b; omega, Nat.le_refl _, e⟩
  · omega
/-- each PLACE has a READING -/
theorem RT_ex {E : Nat → Nat} {G : Nat → Int32} {lt : Nat → Nat → Bool} {L : Nat → Nat → Nat} {h : Nat} (hh : h ≤ 20) (hL : ∀ i j, i < j → j ≤ h → L i j = tS E G lt L i j) : ∀ (f i j p : Nat), i < j → j ≤ h → j - i ≤ f → p < L i j → ∃ T, RT E (mG E G lt L) L f i j p T ∧ T.length ≤ j - i
  | 0, i, j, p, h1, h2, h3, h4 => absurd h1 (by omega)
  | f + 1, i, j, p, h1, h2, h3, h4 => by
    rw [hL i j h1 h2, ← sW_tS] at h4
    obtain ⟨c, q, c1, c2, c3⟩ := sW_find 20 h4
    obtain ⟨d1, d2, d3⟩ := mG_pos c3
    have hab : i + c % 2 < j - c % 2 := by
      rcases Nat.lt_or_ge (i + c % 2) (j - c % 2) with e | e
      · exact e
      · rw [wi_n e] at d1
        omega
    have pr : ∀ T, RK E L (RT E (mG E G lt L) L f) (c / 2) (i + c % 2) (j - c % 2) q T → T.length ≤ j - i → ∃ T, RT E (mG E G lt L) L (f + 1) i j p T ∧ T.length ≤ j - i := fun T hT hl => ⟨T, ⟨c, q, c1, c2, c3, hT⟩, hl⟩
    rcases Nat.lt_or_ge (c / 2) 2 with k2 | k2
    · exact pr _ (Or.inl ⟨k2, rfl⟩) (by show 1 ≤ j - i; omega)
    · rcases Nat.lt_or_ge (c / 2) 7 with k7 | k7
      · rw [wi_2 hab k2 (by omega)] at d1
        have hp := wiP_pf (E := E) (L := L) (k := c / 2) (a := i + c % 2) (b := j - c % 2) (j - c % 2 - 1 - (i + c % 2 + 1)) 0 0 (Nat.zero_le _)
        rw [Nat.zero_add] at hp
        obtain ⟨d, r, e1, e2, e3, e4⟩ := pfS_find _ (Nat.lt_of_lt_of_le d1 hp)
        obtain ⟨g0, g1, g2⟩ := tm_dm e4
        obtain ⟨X, x1, x2⟩ := RT_ex hh hL f (i + c % 2) (i + c % 2 + 1 + d) _ (by omega) (by omega) (by omega) g1
        obtain ⟨Y, y1, y2⟩ := RT_ex hh hL f (i + c % 2 + 1 + d + 1) (j - c % 2) _ (by omega) (by omega) (by omega) g2
        refine pr (X ++ Y ++ [(c / 2, 0)]) (Or.inr (Or.inr ⟨k2, by omega, d, r, X, Y, by omega, e2, e3, e4, rfl, x1, y1⟩)) ?_
        rw [List.length_append, List.length_append]
        show X.length + Y.length + 1 ≤ _
        omega
      · obtain ⟨_, w1, w2, w3, w4, _⟩ := wi_un k7 (by omega) d1
        obtain ⟨X, x1, x2⟩ := RT_ex hh hL f (pfN (c / 2) (i + c % 2)) (ptN (c / 2) (j - c % 2)) q w3 (by omega) (by omega) w1
        refine pr (X ++ [(c / 2, E (i + c % 2))]) (Or.inr (Or.inl ⟨k7, X, rfl, x1⟩)) ?_
        rw [List.length_append]
        show X.length + 1 ≤ _
        omega
end
section
/-- the words of THE EAR, the letters that are FUNCTIONS and a set of KINDS, as the class holds them -/
def eaR (n : Nat) (P : Nat → Nat → Int32) (E : Nat → Nat) : Prop := ∀ i, i < n → P 32 i = nI (E i) ∧ E i ≤ 31
def gfR (x : Int32) (G : Nat → Int32) : Prop := ∀ v, v < 10 → (hbW x (nI v) = 0 ↔ G v = 0)
def kdR (x : Int32) (K : Nat → Bool) : Prop := ∀ k, k < 10 → (hbW x (nI k) = 0 ↔ K k = false)
theorem hb_0 : ∀ k, k < 10 → hbW 0 (nI k) = 0 := by decide +kernel
theorem kS_f {K : Nat → Bool} {w : Nat → Nat} (h : ∀ k, k < 10 → K k = false) : ∀ c, c ≤ 10 → kS K w c = 0
  | 0, _ => rfl
  | c + 1, hc => by
    show kS K w c + _ = 0
    rw [kS_f h c (by omega), h c (by omega)]
    rfl
theorem dg_lo : ∀ e, e < 10 → nI e - c8 10 < 0 := by decide +kernel
theorem dg_ok : ∀ e, e ≤ 31 → 10 ≤ e → (¬ nI e - c8 10 < 0 ∧ (nI e - c8 10 ≤ c8 9 ↔ e ≤ 19)) := by decide +kernel
theorem nvN_lt {E : Nat → Nat} : ∀ (c m t : Nat), numAll E c m = true → nvN E c m t < (t + 1) * 10 ^ c
  | 0, m, t, _ => by show t < (t + 1) * 1; omega
  | c + 1, m, t, h => by
    have h' : ((decide (10 ≤ E m) && decide (E m ≤ 19)) && numAll E c (m + 1)) = true := h
    simp only [Bool.and_eq_true, decide_eq_true_eq] at h'
    have ih := nvN_lt c (m + 1) (10 * t + E m - 10) h'.2
    show nvN E c (m + 1) (10 * t + E m - 10) < _
    have e : (t + 1) * 10 ^ (c + 1) = (10 * t + 10) * 10 ^ c := by
      rw [Nat.pow_succ, Nat.mul_comm (10 ^ c) 10, ← Nat.mul_assoc]
      congr 1
      omega
    rw [e]
    exact Nat.lt_of_lt_of_le ih (Nat.mul_le_mul_right _ (by omega))
theorem nmL_num {P : Nat → Nat → Int32} {n : Nat} {E : Nat → Nat} (hE : eaR n P E) : ∀ (c m t : Nat), m + c ≤ n → nmL (P 32) c m (nI t) = if numAll E c m = true then nI (nvN E c m t) else Int32.ofInt (-1)
  | 0, m, t, _ => by
    show nI t = if true = true then _ else _
    rw [if_pos rfl]
    rfl
  | c + 1, m, t, hm => by
    obtain ⟨e1, e2⟩ := hE m (by omega)
    have hN : numAll E (c + 1) m = ((decide (10 ≤ E m) && decide (E m ≤ 19)) && numAll E c (m + 1)) := rfl
    rw [nmL_s, e1, hN]
    rcases Nat.lt_or_ge (E m) 10 with h | h
    · rw [if_pos (dg_lo (E m) h)]
      simp [show ¬ 10 ≤ E m by omega]
    · obtain ⟨g1, g2⟩ := dg_ok (E m) e2 h
      rw [if_neg g1]
      by_cases h9 : E m ≤ 19
      · rw [if_pos (g2.mpr h9)]
        have e9 : nI t * c8 10 + (nI (E m) - c8 10) = nI (10 * t + E m - 10) := by
          rw [show c8 10 = nI 10 from rfl, nI_mul, nI_sub h, nI_add]
          congr 1
          omega
        rw [e9, nmL_num hE c (m + 1) _ (by omega)]
        simp [h, h9]
        rfl
      · rw [if_neg (fun q => h9 (g2.mp q))]
        simp [h9]
theorem nmW_num {P : Nat → Nat → Int32} {n : Nat} {E : Nat → Nat} (hE : eaR n P E) {a b : Nat} (hab : a < b) (hb : b ≤ n) : nmW (P 32) a b = if isNumB E a b = true then nI (nvN E (b - a) a 0) else Int32.ofInt (-1) := by
  obtain ⟨e1, e2⟩ := hE a (by omega)
  have h10 : P 32 a = c8 10 ↔ E a = 10 := by
    rw [e1]
    exact nI_eq (a := E a) (b := 10) (by omega) (by decide)
  unfold nmW isNumB
  by_cases h : 4 < b - a ∨ (1 < b - a ∧ P 32 a = c8 10)
  · rw [if_pos h, if_neg]
    intro q
    simp only [Bool.and_eq_true, Bool.or_eq_true, decide_eq_true_eq] at q
    rcases h with h | ⟨h1, h2⟩
    · omega
    · have := h10.mp h2
      omega
  · rw [if_neg h]
    have := nmL_num hE (b - a) a 0 (by omega)
    rw [show nI 0 = Int32.ofInt 0 from rfl] at this
    rw [this]
    have h4 : b - a ≤ 4 := by omega
    have h5 : E a ≠ 10 ∨ b - a = 1 := by
      by_cases e : E a = 10
      · right
        have := h10.mpr e
        have : ¬ (1 < b - a) := fun q => h (Or.inr ⟨q, this⟩)
        omega
      · exact Or.inl e
    have : (decide (b - a ≤ 4) && (decide (E a ≠ 10) || decide (b - a = 1))) = true := by
      simp only [Bool.and_eq_true, Bool.or_eq_true, decide_eq_true_eq]
      exact ⟨h4, h5⟩
    rw [this, Bool.true_and]
theorem nv_sm {E : Nat → Nat} {a b : Nat} (h : isNumB E a b = true) : nvN E (b - a) a 0 < 10000 := by
  have h1 := (isNumB_at h).1
  unfold isNumB at h
  simp only [Bool.and_eq_true] at h
  have h2 := nvN_lt (b - a) a 0 h.2
  have h3 : 10 ^ (b - a) ≤ 10 ^ 4 := Nat.pow_le_pow_right (by decide) h1
  omega
def keI (k : Nat) : Int32 := if k = 10 then Int32.ofInt (-1) else nI k
theorem nI_m1' {v : Nat} (h : v < 2 ^ 31) : ¬ nI v = Int32.ofInt (-1) := fun e => by
  have := congrArg Int32.toInt e
  rw [nI_toInt h] at this
  have e2 : (Int32.ofInt (-1)).toInt = -1 := by decide
  omega
set_option maxHeartbeats 1000000 in
set_option maxRecDepth 20000 in
theorem hKeX (O : Nat → Int32) (P : Nat → Nat → Int32) (Y : Nat → Nat → Int64) (g : Nat → zC) {n : Nat} {E : Nat → Nat} (hE : eaR n P E) {G : Nat → Int32} (hG : gfR (O 12) G) {a b : Nat} (hab : a < b) (hb : b ≤ n) (hn : n ≤ 20) : zK 1 zX0_kindByEnds [.ref 31, .int (nI a), .int (nI b)] (wX O P Y g) (fun r w' => w' = wX O P Y g ∧ r = some (.int (keI (keV E G a b)))) := by
  have e31 := (hE a (by omega)).2
  refine zK_of qX0_kindByEnds (by decide +kernel) rfl ?_
  iterate 3 (refine zv_step (bX0_kindByEnds 1) rfl rfl trivial ?_)
  refine zv_iale (bX0_kindByEnds 1) rfl rfl (show vp_in (nI a) 20 by exact vp_in_nI (by omega) (by decide)) (show P 32 (nI a).toNatClampNeg = nI (E (a)) by rw [nI_clamp (by omega)]; exact (hE (a) (by omega)).1) ?_
  iterate 4 (refine zv_step (bX0_kindByEnds 1) rfl rfl trivial ?_)
  refine zv_ifb (fun h10 => ?_) (fun h10 => ?_)
  · have q10 : ¬ E a < 10 := by
      have h9 : 10 ≤ E a := (nI_leI (a := 10) (by decide) (by omega)).mp h10
      omega
    iterate 3 (refine zv_step (bX0_kindByEnds 1) rfl rfl trivial ?_)
    refine zv_ifb (fun h71 => ?_) (fun h71 => ?_)
    · have q71 : ¬ E (a) = 25 := fun e => h71 (show nI (E (a)) = nI 25 by rw [e])
      iterate 3 (refine zv_step (bX0_kindByEnds 1) rfl rfl trivial ?_)
      refine zv_ifb (fun h91 => ?_) (fun h91 => ?_)
      · have q91 : ¬ E (a) = 26 := fun e => h91 (show nI (E (a)) = nI 26 by rw [e])
        iterate 3 (refine zv_step (bX0_kindByEnds 1) rfl rfl trivial ?_)
        refine zv_V2 (bX0_kindByEnds 1) rfl rfl rfl rfl rfl rfl rfl ⟨rfl, rfl, rfl⟩ ⟨by decide, by decide⟩ ⟨Nat.zero_le _, Nat.zero_le _⟩ (hNum O P Y g hab (by omega)) ?_
        rintro _ _ ⟨rfl, rfl⟩
        iterate 2 (refine zv_step (bX0_kindByEnds 1) rfl rfl trivial ?_)
        refine zv_ifb (fun h128 => ?_) (fun h128 => ?_)
        · have q128 : isNumB E a b = true := by
            have h9 : ¬ nmW (P 32) a b = Int32.ofInt (-1) := h128
            rw [nmW_num hE hab hb] at h9
            exact Decidable.byContradiction (fun e => h9 (if_neg e))
          iterate 1 (refine zv_step (bX0_kindByEnds 1) rfl rfl trivial ?_)
          exact zv_iret (bX0_kindByEnds 1) rfl (Or.inl rfl) (Nat.zero_le _) (Nat.zero_le _) ⟨rfl, congrArg (fun v => some (Value.int v)) (by unfold keV keI; rw [if_neg q10, if_neg q71, if_neg q91, if_pos q128]; rfl)⟩
        · have q128 : ¬ isNumB E a b = true := fun e => by
            have h9 : nmW (P 32) a b = Int32.ofInt (-1) := Decidable.not_not.mp h128
            rw [nmW_num hE hab hb, if_pos e] at h9
            exact nI_m1' (by have := nv_sm e; omega) h9
          iterate 2 (refine zv_step (bX0_kindByEnds 1) rfl rfl trivial ?_)
          exact zv_iret (bX0_kindByEnds 1) rfl (Or.inl rfl) (Nat.zero_le _) (Nat.zero_le _) ⟨rfl, congrArg (fun v => some (Value.int v)) (by unfold keV keI; rw [if_neg q10, if_neg q71, if_neg q91, if_neg q128]; rfl)⟩
      · have q91 : E (a) = 26 := (nI_eq (b := 26) (by have := (hE (a) (by omega)).2; omega) (by decide)).mp (Decidable.not_not.mp h91)
        iterate 5 (refine zv_step (bX0_kindByEnds 1) rfl rfl trivial ?_)
        refine zv_ifb (fun h98 => ?_) (fun h98 => ?_)
        · have q98 : b - a ≤ 2 := (sub_le (n := 2) (by omega) (by omega) (by decide)).mp h98
          iterate 1 (refine zv_step (bX0_kindByEnds 1) rfl rfl trivial ?_)
          exact zv_iret (bX0_kindByEnds 1) rfl (Or.inl rfl) (Nat.zero_le _) (Nat.zero_le _) ⟨rfl, congrArg (fun v => some (Value.int v)) (by unfold keV keI; rw [if_neg q10, if_neg q71, if_pos q91, if_neg (show ¬ (2 < b - a ∧ E (b - 1) = 27) from fun q => by omega)]; rfl)⟩
        · have q98 : ¬ b - a ≤ 2 := fun e => h98 ((sub_le (n := 2) (by omega) (by omega) (by decide)).mpr e)
          iterate 5 (refine zv_step (bX0_kindByEnds 1) rfl rfl trivial ?_)
          refine zv_iale (bX0_kindByEnds 1) rfl rfl (show vp_in (nI b - Int32.ofInt 1) 20 by rw [sub_1 (by omega)]; exact vp_in_nI (by omega) (by decide)) (show P 32 (nI b - Int32.ofInt 1).toNatClampNeg = nI (E (b - 1)) by rw [sub_1 (by omega), nI_clamp (by omega)]; exact (hE (b - 1) (by omega)).1) ?_
          iterate 2 (refine zv_step (bX0_kindByEnds 1) rfl rfl trivial ?_)
          refine zv_ifb (fun h111 => ?_) (fun h111 => ?_)
          · have q111 : ¬ E (b - 1) = 27 := fun e => h111 (show nI (E (b - 1)) = nI 27 by rw [e])
            iterate 1 (refine zv_step (bX0_kindByEnds 1) rfl rfl trivial ?_)
            exact zv_iret (bX0_kindByEnds 1) rfl (Or.inl rfl) (Nat.zero_le _) (Nat.zero_le _) ⟨rfl, congrArg (fun v => some (Value.int v)) (by unfold keV keI; rw [if_neg q10, if_neg q71, if_pos q91, if_neg (show ¬ (2 < b - a ∧ E (b - 1) = 27) from fun q => q111 q.2)]; rfl)⟩
          · have q111 : E (b - 1) = 27 := (nI_eq (b := 27) (by have := (hE (b - 1) (by omega)).2; omega) (by decide)).mp (Decidable.not_not.mp h111)
            iterate 2 (refine zv_step (bX0_kindByEnds 1) rfl rfl trivial ?_)
            exact zv_iret (bX0_kindByEnds 1) rfl (Or.inl rfl) (Nat.zero_le _) (Nat.zero_le _) ⟨rfl, congrArg (fun v => some (Value.int v)) (by unfold keV keI; rw [if_neg q10, if_neg q71, if_pos q91, if_pos (show 2 < b - a ∧ E (b - 1) = 27 from ⟨by omega, q111⟩)]; rfl)⟩
    · have q71 : E (a) = 25 := (nI_eq (b := 25) (by have := (hE (a) (by omega)).2; omega) (by decide)).mp (Decidable.not_not.mp h71)
      iterate 5 (refine zv_step (bX0_kindByEnds 1) rfl rfl trivial ?_)
      refine zv_ifb (fun h78 => ?_) (fun h78 => ?_)
      · have q78 : b - a ≤ 1 := (sub_le (n := 1) (by omega) (by omega) (by decide)).mp h78
        iterate 1 (refine zv_step (bX0_kindByEnds 1) rfl rfl trivial ?_)
        exact zv_iret (bX0_kindByEnds 1) rfl (Or.inl rfl) (Nat.zero_le _) (Nat.zero_le _) ⟨rfl, congrArg (fun v => some (Value.int v)) (by unfold keV keI; rw [if_neg q10, if_pos q71, if_neg (show ¬ 1 < b - a by omega)]; rfl)⟩
      · have q78 : ¬ b - a ≤ 1 := fun e => h78 ((sub_le (n := 1) (by omega) (by omega) (by decide)).mpr e)
        iterate 2 (refine zv_step (bX0_kindByEnds 1) rfl rfl trivial ?_)
        exact zv_iret (bX0_kindByEnds 1) rfl (Or.inl rfl) (Nat.zero_le _) (Nat.zero_le _) ⟨rfl, congrArg (fun v => some (Value.int v)) (by unfold keV keI; rw [if_neg q10, if_pos q71, if_pos (show 1 < b - a by omega)]; rfl)⟩
  · have q10 : E a < 10 := by
      have h9 : ¬ 10 ≤ E a := fun e => h10 ((nI_leI (a := 10) (by decide) (by omega)).mpr e)
      omega
    iterate 3 (refine zv_step (bX0_kindByEnds 1) rfl rfl trivial ?_)
    refine zv_S2 (bX0_kindByEnds 1) rfl rfl rfl rfl ⟨rfl, rfl, rfl⟩ ⟨by decide, by decide⟩ ⟨Nat.zero_le _, Nat.zero_le _⟩ (pHasBitW _ _ _) ?_
    rintro _ _ ⟨rfl, rfl⟩
    iterate 3 (refine zv_step (bX0_kindByEnds 1) rfl rfl trivial ?_)
    refine zv_ifb (fun h25 => ?_) (fun h25 => ?_)
    · have q25 : G (E a) = 0 := (hG _ q10).mp h25
      iterate 5 (refine zv_step (bX0_kindByEnds 1) rfl rfl trivial ?_)
      refine zv_ifb (fun h59 => ?_) (fun h59 => ?_)
      · have q59 : ¬ b - a = 1 := fun e => h59 (show nI b - nI a = nI 1 by rw [nI_sub (by omega), e])
        iterate 1 (refine zv_step (bX0_kindByEnds 1) rfl rfl trivial ?_)
        exact zv_iret (bX0_kindByEnds 1) rfl (Or.inl rfl) (Nat.zero_le _) (Nat.zero_le _) ⟨rfl, congrArg (fun v => some (Value.int v)) (by unfold keV keI; rw [if_pos q10, if_pos q25, if_neg q59]; rfl)⟩
      · have q59 : b - a = 1 := (nI_eq (b := 1) (by omega) (by decide)).mp (show nI (b - a) = nI 1 by rw [← nI_sub (by omega)]; exact Decidable.not_not.mp h59)
        iterate 2 (refine zv_step (bX0_kindByEnds 1) rfl rfl trivial ?_)
        exact zv_iret (bX0_kindByEnds 1) rfl (Or.inl rfl) (Nat.zero_le _) (Nat.zero_le _) ⟨rfl, congrArg (fun v => some (Value.int v)) (by unfold keV keI; rw [if_pos q10, if_pos q25, if_pos q59]; rfl)⟩
    · have q25 : ¬ G (E a) = 0 := fun e => h25 ((hG _ q10).mpr e)
      iterate 5 (refine zv_step (bX0_kindByEnds 1) rfl rfl trivial ?_)
      refine zv_ifb (fun h32 => ?_) (fun h32 => ?_)
      · have q32 : b - a ≤ 2 := (sub_le (n := 2) (by omega) (by omega) (by decide)).mp h32
        iterate 1 (refine zv_step (bX0_kindByEnds 1) rfl rfl trivial ?_)
        exact zv_iret (bX0_kindByEnds 1) rfl (Or.inl rfl) (Nat.zero_le _) (Nat.zero_le _) ⟨rfl, congrArg (fun v => some (Value.int v)) (by unfold keV keI; rw [if_pos q10, if_neg q25, if_neg (show ¬ (2 < b - a ∧ E (a + 1) = 28) from fun q => by omega)]; rfl)⟩
      · have q32 : ¬ b - a ≤ 2 := fun e => h32 ((sub_le (n := 2) (by omega) (by omega) (by decide)).mpr e)
        iterate 5 (refine zv_step (bX0_kindByEnds 1) rfl rfl trivial ?_)
        refine zv_iale (bX0_kindByEnds 1) rfl rfl (show vp_in (nI a + Int32.ofInt 1) 20 by rw [show nI a + Int32.ofInt 1 = nI (a + 1) from nI_1 a]; exact vp_in_nI (by omega) (by decide)) (show P 32 (nI a + Int32.ofInt 1).toNatClampNeg = nI (E (a + 1)) by rw [show nI a + Int32.ofInt 1 = nI (a + 1) from nI_1 a, nI_clamp (by omega)]; exact (hE (a + 1) (by omega)).1) ?_
        iterate 2 (refine zv_step (bX0_kindByEnds 1) rfl rfl trivial ?_)
        refine zv_ifb (fun h45 => ?_) (fun h45 => ?_)
        · have q45 : ¬ E (a + 1) = 28 := fun e => h45 (show nI (E (a + 1)) = nI 28 by rw [e])
          iterate 1 (refine zv_step (bX0_kindByEnds 1) rfl rfl trivial ?_)
          exact zv_iret (bX0_kindByEnds 1) rfl (Or.inl rfl) (Nat.zero_le _) (Nat.zero_le _) ⟨rfl, congrArg (fun v => some (Value.int v)) (by unfold keV keI; rw [if_pos q10, if_neg q25, if_neg (show ¬ (2 < b - a ∧ E (a + 1) = 28) from fun q => q45 q.2)]; rfl)⟩
        · have q45 : E (a + 1) = 28 := (nI_eq (b := 28) (by have := (hE (a + 1) (by omega)).2; omega) (by decide)).mp (Decidable.not_not.mp h45)
          iterate 2 (refine zv_step (bX0_kindByEnds 1) rfl rfl trivial ?_)
          exact zv_iret (bX0_kindByEnds 1) rfl (Or.inl rfl) (Nat.zero_le _) (Nat.zero_le _) ⟨rfl, congrArg (fun v => some (Value.int v)) (by unfold keV keI; rw [if_pos q10, if_neg q25, if_pos (show 2 < b - a ∧ E (a + 1) = 28 from ⟨by omega, q45⟩)]; rfl)⟩
theorem keI_m {k : Nat} (hk : k ≤ 10) : keI k = Int32.ofInt (-1) ↔ k = 10 := by
  unfold keI
  by_cases h : k = 10
  · rw [if_pos h]
    exact ⟨fun _ => h, fun _ => rfl⟩
  · rw [if_neg h]
    exact ⟨fun e => absurd e (nI_m1' (by omega)), fun e => absurd e h⟩
theorem keI_n {k : Nat} (hk : ¬ k = 10) : keI k = nI k := if_neg hk
theorem pf_N {k a : Nat} (hk : k < 10) : pfW (nI k) (nI a) = nI (pfN k a) := by
  unfold pfW pfN
  by_cases h : k = 9
  · subst h
    rw [if_pos (show nI 9 = c8 9 from rfl)]
    exact nI_2 a
  · rw [if_neg (show ¬ nI k = c8 9 from fun e => h ((nI_eq (a := k) (b := 9) (by omega) (by decide)).mp e)), if_neg h]
    exact nI_1 a
theorem pt_N {k b : Nat} (hk : k < 10) (hb : 1 ≤ b) : ptoW (nI k) (nI b) = nI (ptN k b) := by
  unfold ptoW ptN
  by_cases h : k = 8
  · subst h
    rw [if_pos (show nI 8 = c8 8 from rfl)]
    exact sub_1 hb
  · rw [if_neg (show ¬ nI k = c8 8 from fun e => h ((nI_eq (a := k) (b := 8) (by omega) (by decide)).mp e)), if_neg h]
set_option maxHeartbeats 1000000 in
set_option maxRecDepth 20000 in
theorem hBareTX (O : Nat → Int32) (P : Nat → Nat → Int32) (Y : Nat → Nat → Int64) (g : Nat → zC) {n : Nat} {E : Nat → Nat} (hE : eaR n P E) {G : Nat → Int32} (hG : gfR (O 12) G) {a b : Nat} (hab : a < b) (hb : b ≤ n) (hn : n ≤ 20) {L : Nat → Nat → Nat} (hY : ∀ c d, a ≤ c → c < d → d ≤ b → d - c < b - a → Y (34 + c) d = lN (L c d)) (hB : BD L a b) {K : Nat → Bool} {k : Int32} (hK : kdR k K) (x6 : Int32) {n0 : Nat} : zV (zMo 2 zX0_bareWays) false n0 0 0 88 [(6, .int x6), (4, .long (lN (pK E L K a b (b - 1 - (a + 1))))), (0, .ref 31), (1, .int (nI a)), (2, .int (nI b)), (3, .int k)] [] (wX O P Y g) (fun r w' => w' = wX O P Y g ∧ r = some (.long (lN (bS E G L K a b)))) := by
  iterate 3 (refine zv_step (bX0_bareWays 2) rfl rfl trivial ?_)
  refine zv_V2 (bX0_bareWays 2) rfl rfl rfl rfl rfl rfl rfl ⟨rfl, rfl, rfl⟩ ⟨by decide, by decide⟩ ⟨Nat.zero_le _, Nat.zero_le _⟩ (hKeX O P Y g hE hG hab hb hn) ?_
  rintro _ _ ⟨rfl, rfl⟩
  have kin := keV_in E G a b
  have hk10 : keV E G a b ≤ 10 := by omega
  have eT := bS_eq (E := E) (G := G) hB hab (by omega) K
  iterate 4 (refine zv_step (bX0_bareWays 2) rfl rfl trivial ?_)
  refine zv_ifb (fun h99 => ?_) (fun h99 => ?_)
  · have q99 : keV E G a b = 10 := (keI_m hk10).mp h99
    iterate 1 (refine zv_step (bX0_bareWays 2) rfl rfl trivial ?_)
    exact zv_lret (bX0_bareWays 2) rfl rfl (Nat.zero_le _) (Nat.zero_le _) ⟨rfl, congrArg (fun v => some (Value.long v)) (by rw [eT]; unfold neV; rw [if_pos (show keV E G a b = 10 ∨ ¬ K (keV E G a b) = true from Or.inl q99)]; rfl)⟩
  · have q99 : ¬ keV E G a b = 10 := fun e => h99 ((keI_m hk10).mpr e)
    iterate 2 (refine zv_step (bX0_bareWays 2) rfl rfl trivial ?_)
    refine zv_S2 (bX0_bareWays 2) rfl rfl rfl rfl ⟨rfl, rfl, rfl⟩ ⟨by decide, by decide⟩ ⟨Nat.zero_le _, Nat.zero_le _⟩ (pHasBitW _ _ _) ?_
    rintro _ _ ⟨rfl, rfl⟩
    iterate 1 (refine zv_step (bX0_bareWays 2) rfl rfl trivial ?_)
    refine zv_ifb (fun h108 => ?_) (fun h108 => ?_)
    · have q108 : ¬ K (keV E G a b) = false := fun e => h108 (by show hbW k (keI (keV E G a b)) = 0; rw [keI_n q99]; exact (hK _ (by omega)).mpr e)
      iterate 3 (refine zv_step (bX0_bareWays 2) rfl rfl trivial ?_)
      refine zv_ifb (fun h117 => ?_) (fun h117 => ?_)
      · have q117 : ¬ keV E G a b ≤ 1 := by
          have h9 : nI 1 < keI (keV E G a b) := h117
          rw [keI_n q99, nI_ltI (by decide) (by omega)] at h9
          omega
        obtain ⟨w1, w2, w3⟩ : a < pfN (keV E G a b) a ∧ pfN (keV E G a b) a < ptN (keV E G a b) b ∧ ptN (keV E G a b) b ≤ b := by
          rcases kin with e | e | e | e | e | e
          · omega
          · omega
          · rw [e.1]; exact ⟨by show a < a + 1; omega, by show a + 1 < b; omega, Nat.le_refl _⟩
          · rw [e.1]; exact ⟨by show a < a + 1; omega, by show a + 1 < b - 1; omega, by show b - 1 ≤ b; omega⟩
          · rw [e.1]; exact ⟨by show a < a + 2; omega, by show a + 2 < b; omega, Nat.le_refl _⟩
          · omega
        have ef : pfW (keI (keV E G a b)) (nI a) = nI (pfN (keV E G a b) a) := by rw [keI_n q99]; exact pf_N (by omega)
        have et : ptoW (keI (keV E G a b)) (nI b) = nI (ptN (keV E G a b) b) := by rw [keI_n q99]; exact pt_N (by omega) (by omega)
        iterate 5 (refine zv_step (bX0_bareWays 2) rfl rfl trivial ?_)
        refine zv_S2 (bX0_bareWays 2) rfl rfl rfl rfl ⟨rfl, rfl, rfl⟩ ⟨by decide, by decide⟩ ⟨Nat.zero_le _, Nat.zero_le _⟩ (hFrom _ _ _) ?_
        rintro _ _ ⟨rfl, rfl⟩
        refine zv_aald (bX0_bareWays 2) rfl (Or.inr rfl) rfl (show vp_in (pfW (keI (keV E G a b)) (nI a)) 21 by rw [ef]; exact vp_in_nI (by omega) (by decide)) (show ([some 34, some 35, some 36, some 37, some 38, some 39, some 40, some 41, some 42, some 43, some 44, some 45, some 46, some 47, some 48, some 49, some 50, some 51, some 52, some 53, some 54] : List (Option Nat)).getD (pfW (keI (keV E G a b)) (nI a)).toNatClampNeg none = some (34 + (pfN (keV E G a b) a)) by rw [ef, nI_clamp (by omega)]; exact dLs (by omega)) ?_
        iterate 2 (refine zv_step (bX0_bareWays 2) rfl rfl trivial ?_)
        refine zv_S2 (bX0_bareWays 2) rfl rfl rfl rfl ⟨rfl, rfl, rfl⟩ ⟨by decide, by decide⟩ ⟨Nat.zero_le _, Nat.zero_le _⟩ (hTo _ _ _) ?_
        rintro _ _ ⟨rfl, rfl⟩
        refine zv_lale (bX0_bareWays 2) rfl (wY O P Y g (by omega)) (show vp_in (ptoW (keI (keV E G a b)) (nI b)) 21 by rw [et]; exact vp_in_nI (by omega) (by decide)) (show Y (34 + (pfN (keV E G a b) a)) (ptoW (keI (keV E G a b)) (nI b)).toNatClampNeg = lN (L (pfN (keV E G a b) a) (ptN (keV E G a b) b)) by rw [et, nI_clamp (by omega)]; exact hY _ _ (by omega) (by omega) (by omega) (by omega)) ?_
        iterate 1 (refine zv_step (bX0_bareWays 2) rfl rfl trivial ?_)
        exact zv_lret (bX0_bareWays 2) rfl rfl (Nat.zero_le _) (Nat.zero_le _) ⟨rfl, congrArg (fun v => some (Value.long v)) (by rw [eT]; unfold neV; rw [if_neg (show ¬ (keV E G a b = 10 ∨ ¬ K (keV E G a b) = true) from fun q => q.elim q99 (fun w => w (by cases e : K (keV E G a b) with | true => rfl | false => exact absurd e q108))), if_neg q117]; exact lN_add _ _)⟩
      · have q117 : keV E G a b ≤ 1 := by
          have h9 : ¬ nI 1 < keI (keV E G a b) := h117
          rw [keI_n q99, nI_ltI (by decide) (by omega)] at h9
          omega
        iterate 4 (refine zv_step (bX0_bareWays 2) rfl rfl trivial ?_)
        exact zv_lret (bX0_bareWays 2) rfl rfl (Nat.zero_le _) (Nat.zero_le _) ⟨rfl, congrArg (fun v => some (Value.long v)) (by rw [eT]; unfold neV; rw [if_neg (show ¬ (keV E G a b = 10 ∨ ¬ K (keV E G a b) = true) from fun q => q.elim q99 (fun w => w (by cases e : K (keV E G a b) with | true => rfl | false => exact absurd e q108))), if_pos q117]; exact lN_add _ _)⟩
    · have q108 : K (keV E G a b) = false := (hK _ (by omega)).mp (by rw [← keI_n q99]; exact Decidable.not_not.mp h108)
      iterate 1 (refine zv_step (bX0_bareWays 2) rfl rfl trivial ?_)
      exact zv_lret (bX0_bareWays 2) rfl rfl (Nat.zero_le _) (Nat.zero_le _) ⟨rfl, congrArg (fun v => some (Value.long v)) (by rw [eT]; unfold neV; rw [if_pos (show keV E G a b = 10 ∨ ¬ K (keV E G a b) = true from Or.inr (by rw [q108]; decide))]; rfl)⟩
theorem pr_e : ∀ e, e ≤ 31 → ((2 ≤ (nI e - c8 18).toInt ∧ (nI e - c8 18).toInt ≤ 6) ↔ (20 ≤ e ∧ e ≤ 24)) := by decide +kernel
theorem pr_k : ∀ e, e ≤ 31 → 20 ≤ e → nI e - c8 18 = nI (e - 18) := by decide +kernel
set_option maxHeartbeats 1000000 in
set_option maxRecDepth 20000 in
theorem hBareLX (O : Nat → Int32) (P : Nat → Nat → Int32) (Y : Nat → Nat → Int64) (g : Nat → zC) {n : Nat} {E : Nat → Nat} (hE : eaR n P E) {G : Nat → Int32} (hG : gfR (O 12) G) {a b : Nat} (hab : a < b) (hb : b ≤ n) (hn : n ≤ 20) {L : Nat → Nat → Nat} (hY : ∀ c d, a ≤ c → c < d → d ≤ b → d - c < b - a → Y (34 + c) d = lN (L c d)) (hB : BD L a b) {K : Nat → Bool} {k : Int32} (hK : kdR k K) {n0 : Nat} : ∀ (c d : Nat), d + c = b - 1 - (a + 1) → ∀ {x6 : Int32}, x6 = nI (a + 1 + d) → zV (zMo 2 zX0_bareWays) false n0 0 0 19 [(6, .int x6), (4, .long (lN (pK E L K a b d))), (0, .ref 31), (1, .int (nI a)), (2, .int (nI b)), (3, .int k)] [] (wX O P Y g) (fun r w' => w' = wX O P Y g ∧ r = some (.long (lN (bS E G L K a b)))) := by
  intro c
  induction c with
  | zero =>
    intro d hd x6 e6
    subst e6
    iterate 5 (refine zv_step (bX0_bareWays 2) rfl rfl trivial ?_)
    refine zv_ift (show nI b - Int32.ofInt 1 ≤ nI (a + 1 + d) by rw [sub_1 (by omega)]; exact nI_le (by omega) (by omega)) ?_
    rw [show d = b - 1 - (a + 1) by omega]
    exact hBareTX O P Y g hE hG hab hb hn hY hB hK _
  | succ c ih =>
    intro d hd x6 e6
    subst e6
    iterate 5 (refine zv_step (bX0_bareWays 2) rfl rfl trivial ?_)
    refine zv_iff (show ¬ nI b - Int32.ofInt 1 ≤ nI (a + 1 + d) by rw [sub_1 (by omega)]; exact fun h => absurd ((nI_leI (by omega) (by omega)).mp h) (by omega)) ?_
    iterate 3 (refine zv_step (bX0_bareWays 2) rfl rfl trivial ?_)
    refine zv_iale (bX0_bareWays 2) rfl rfl (show vp_in (nI (a + 1 + d)) 20 by exact vp_in_nI (by omega) (by decide)) (show P 32 (nI (a + 1 + d)).toNatClampNeg = nI (E (a + 1 + d)) by rw [nI_clamp (by omega)]; exact (hE (a + 1 + d) (by omega)).1) ?_
    iterate 4 (refine zv_step (bX0_bareWays 2) rfl rfl trivial ?_)
    refine zv_S1 (bX0_bareWays 2) rfl rfl rfl rfl ⟨rfl, rfl, rfl⟩ ⟨by decide, by decide⟩ ⟨Nat.zero_le _, Nat.zero_le _⟩ (hX1_isPair _ _) ?_
    rintro _ _ ⟨rfl, ⟨hp, rfl⟩ | ⟨hp, rfl⟩⟩
    · have q44 := (pr_e _ (hE (a + 1 + d) (by omega)).2).mp hp
      have e18 := pr_k _ (hE (a + 1 + d) (by omega)).2 q44.1
      iterate 1 (refine zv_step (bX0_bareWays 2) rfl rfl trivial ?_)
      refine zv_iff (by decide) ?_
      iterate 2 (refine zv_step (bX0_bareWays 2) rfl rfl trivial ?_)
      refine zv_S2 (bX0_bareWays 2) rfl rfl rfl rfl ⟨rfl, rfl, rfl⟩ ⟨by decide, by decide⟩ ⟨Nat.zero_le _, Nat.zero_le _⟩ (pHasBitW _ _ _) ?_
      rintro _ _ ⟨rfl, rfl⟩
      iterate 1 (refine zv_step (bX0_bareWays 2) rfl rfl trivial ?_)
      refine zv_ifb (fun h53 => ?_) (fun h53 => ?_)
      · have q53 : K (E (a + 1 + d) - 18) = false := (hK _ (by omega)).mp (by rw [← e18]; exact h53)
        iterate 2 (refine zv_step (bX0_bareWays 2) rfl rfl trivial ?_)
        have e9 : pK E L K a b (d + 1) = pK E L K a b d := by
          show _ + _ = _
          rw [if_neg (show ¬ (20 ≤ E (a + 1 + d) ∧ E (a + 1 + d) ≤ 24 ∧ K (E (a + 1 + d) - 18) = true) from fun q => by rw [q53] at q; exact absurd q.2.2 (by decide))]
          rfl
        refine zv_locals (l := [(6, .int (nI (a + 1 + d) + Int32.ofInt 1)), (7, .int (nI (E (a + 1 + d)) - c8 18)), (4, .long (lN (pK E L K a b d))), (0, .ref 31), (1, .int (nI a)), (2, .int (nI b)), (3, .int k)]) (l' := [(6, .int (nI (a + 1 + d) + Int32.ofInt 1)), (4, .long (lN (pK E L K a b d))), (0, .ref 31), (1, .int (nI a)), (2, .int (nI b)), (3, .int k)]) (by simp) ?_
        rw [← e9]
        exact ih (d + 1) (by omega) (nI_1 (a + 1 + d))
      · have q53 : K (E (a + 1 + d) - 18) = true := by
          cases e : K (E (a + 1 + d) - 18) with
          | true => rfl
          | false => exact absurd (show hbW k (nI (E (a + 1 + d)) - c8 18) = 0 by rw [e18]; exact (hK _ (by omega)).mpr e) h53
        iterate 4 (refine zv_step (bX0_bareWays 2) rfl rfl trivial ?_)
        refine zv_aald (bX0_bareWays 2) rfl (Or.inr rfl) rfl (show vp_in (nI a) 21 by exact vp_in_nI (by omega) (by decide)) (show ([some 34, some 35, some 36, some 37, some 38, some 39, some 40, some 41, some 42, some 43, some 44, some 45, some 46, some 47, some 48, some 49, some 50, some 51, some 52, some 53, some 54] : List (Option Nat)).getD (nI a).toNatClampNeg none = some (34 + (a)) by rw [nI_clamp (by omega)]; exact dLs (by omega)) ?_
        iterate 1 (refine zv_step (bX0_bareWays 2) rfl rfl trivial ?_)
        refine zv_lale (bX0_bareWays 2) rfl (wY O P Y g (by omega)) (show vp_in (nI (a + 1 + d)) 21 by exact vp_in_nI (by omega) (by decide)) (show Y (34 + (a)) (nI (a + 1 + d)).toNatClampNeg = lN (L (a) (a + 1 + d)) by rw [nI_clamp (by omega)]; exact hY _ _ (by omega) (by omega) (by omega) (by omega)) ?_
        iterate 5 (refine zv_step (bX0_bareWays 2) rfl rfl trivial ?_)
        refine zv_aald (bX0_bareWays 2) rfl (Or.inr rfl) rfl (show vp_in (nI (a + 1 + d) + Int32.ofInt 1) 21 by rw [show nI (a + 1 + d) + Int32.ofInt 1 = nI (a + 1 + d + 1) from nI_1 _]; exact vp_in_nI (by omega) (by decide)) (show ([some 34, some 35, some 36, some 37, some 38, some 39, some 40, some 41, some 42, some 43, some 44, some 45, some 46, some 47, some 48, some 49, some 50, some 51, some 52, some 53, some 54] : List (Option Nat)).getD (nI (a + 1 + d) + Int32.ofInt 1).toNatClampNeg none = some (34 + (a + 1 + d + 1)) by rw [show nI (a + 1 + d) + Int32.ofInt 1 = nI (a + 1 + d + 1) from nI_1 _, nI_clamp (by omega)]; exact dLs (by omega)) ?_
        iterate 1 (refine zv_step (bX0_bareWays 2) rfl rfl trivial ?_)
        refine zv_lale (bX0_bareWays 2) rfl (wY O P Y g (by omega)) (show vp_in (nI b) 21 by exact vp_in_nI (by omega) (by decide)) (show Y (34 + (a + 1 + d + 1)) (nI b).toNatClampNeg = lN (L (a + 1 + d + 1) (b)) by rw [nI_clamp (by omega)]; exact hY _ _ (by omega) (by omega) (by omega) (by omega)) ?_
        iterate 5 (refine zv_step (bX0_bareWays 2) rfl rfl trivial ?_)
        have e9 : lN (pK E L K a b d) + lN (L a (a + 1 + d)) * lN (L (a + 1 + d + 1) b) = lN (pK E L K a b (d + 1)) := by
          rw [lN_mul, lN_add]
          show _ = lN (_ + _)
          rw [if_pos (show 20 ≤ E (a + 1 + d) ∧ E (a + 1 + d) ≤ 24 ∧ K (E (a + 1 + d) - 18) = true from ⟨q44.1, q44.2, q53⟩), tmW_eq (Nat.le_trans (tm_5 hB (by omega)) (pow5_cap1 (by omega)))]
        refine zv_locals (l := [(6, .int (nI (a + 1 + d) + Int32.ofInt 1)), (4, .long (lN (pK E L K a b d) + lN (L a (a + 1 + d)) * lN (L (a + 1 + d + 1) b))), (7, .int (nI (E (a + 1 + d)) - c8 18)), (0, .ref 31), (1, .int (nI a)), (2, .int (nI b)), (3, .int k)]) (l' := [(6, .int (nI (a + 1 + d) + Int32.ofInt 1)), (4, .long (lN (pK E L K a b d) + lN (L a (a + 1 + d)) * lN (L (a + 1 + d + 1) b))), (0, .ref 31), (1, .int (nI a)), (2, .int (nI b)), (3, .int k)]) (by simp) ?_
        rw [e9]
        exact ih (d + 1) (by omega) (nI_1 (a + 1 + d))
    · have q44 := fun q => hp ((pr_e _ (hE (a + 1 + d) (by omega)).2).mpr q)
      iterate 1 (refine zv_step (bX0_bareWays 2) rfl rfl trivial ?_)
      refine zv_ift (by decide) ?_
      iterate 2 (refine zv_step (bX0_bareWays 2) rfl rfl trivial ?_)
      have e9 : pK E L K a b (d + 1) = pK E L K a b d := by
        show _ + _ = _
        rw [if_neg (show ¬ (20 ≤ E (a + 1 + d) ∧ E (a + 1 + d) ≤ 24 ∧ K (E (a + 1 + d) - 18) = true) from fun q => q44 ⟨q.1, q.2.1⟩)]
        rfl
      refine zv_locals (l := [(6, .int (nI (a + 1 + d) + Int32.ofInt 1)), (7, .int (nI (E (a + 1 + d)) - c8 18)), (4, .long (lN (pK E L K a b d))), (0, .ref 31), (1, .int (nI a)), (2, .int (nI b)), (3, .int k)]) (l' := [(6, .int (nI (a + 1 + d) + Int32.ofInt 1)), (4, .long (lN (pK E L K a b d))), (0, .ref 31), (1, .int (nI a)), (2, .int (nI b)), (3, .int k)]) (by simp) ?_
      rw [← e9]
      exact ih (d + 1) (by omega) (nI_1 (a + 1 + d))
set_option maxHeartbeats 1000000 in
set_option maxRecDepth 20000 in
theorem hBareX (O : Nat → Int32) (P : Nat → Nat → Int32) (Y : Nat → Nat → Int64) (g : Nat → zC) {n : Nat} {E : Nat → Nat} (hE : eaR n P E) {G : Nat → Int32} (hG : gfR (O 12) G) {a b : Nat} (hab : a < b) (hb : b ≤ n) (hn : n ≤ 20) {L : Nat → Nat → Nat} (hY : ∀ c d, a ≤ c → c < d → d ≤ b → d - c < b - a → Y (34 + c) d = lN (L c d)) (hB : BD L a b) {K : Nat → Bool} {k : Int32} (hK : kdR k K) {x y : Int32} (ex : x = nI a) (ey : y = nI b) : zK 2 zX0_bareWays [.ref 31, .int x, .int y, .int k] (wX O P Y g) (fun r w' => w' = wX O P Y g ∧ r = some (.long (lN (bS E G L K a b)))) := by
  subst ex ey
  refine zK_of qX0_bareWays (by decide +kernel) rfl ?_
  iterate 3 (refine zv_step (bX0_bareWays 2) rfl rfl trivial ?_)
  refine zv_iff (nI_ge (by omega) (by omega)) ?_
  iterate 2 (refine zv_step (bX0_bareWays 2) rfl rfl trivial ?_)
  refine zv_ifb (fun h6 => ?_) (fun h6 => ?_)
  · iterate 6 (refine zv_step (bX0_bareWays 2) rfl rfl trivial ?_)
    refine zv_locals (l := [(6, .int (nI a + Int32.ofInt 1)), (4, .long (Int64.ofInt 0)), (0, .ref 31), (1, .int (nI a)), (2, .int (nI b)), (3, .int k)]) (l' := [(6, .int (nI a + Int32.ofInt 1)), (4, .long (lN (pK E L K a b 0))), (0, .ref 31), (1, .int (nI a)), (2, .int (nI b)), (3, .int k)]) (fun q h => h) (hBareLX O P Y g hE hG hab hb hn hY hB hK (b - 1 - (a + 1)) 0 (by omega) (nI_1 a))
  · have e0 : k = 0 := Decidable.not_not.mp h6
    iterate 1 (refine zv_step (bX0_bareWays 2) rfl rfl trivial ?_)
    exact zv_lret (bX0_bareWays 2) rfl rfl (Nat.zero_le _) (Nat.zero_le _) ⟨rfl, congrArg (fun v => some (Value.long v)) (by unfold bS; rw [kS_f (fun j hj => (hK j hj).mp (by rw [e0]; exact hb_0 j hj)) 10 (Nat.le_refl _)]; rfl)⟩
theorem br_E {n : Nat} {P : Nat → Nat → Int32} {E : Nat → Nat} (hE : eaR n P E) {a b : Nat} (hab : a < b) (hb : b ≤ n) : brW (P 32) a b ↔ (2 < b - a ∧ brE E a b) := by
  obtain ⟨a1, a2⟩ := hE a (by omega)
  obtain ⟨b1, b2⟩ := hE (b - 1) (by omega)
  unfold brW
  rw [a1, b1, show c8 29 = nI 29 from rfl, show c8 30 = nI 30 from rfl, nI_eq (by omega) (by decide), nI_eq (by omega) (by decide)]
set_option maxHeartbeats 1000000 in
set_option maxRecDepth 20000 in
theorem hWaysX (O : Nat → Int32) (P : Nat → Nat → Int32) (Y : Nat → Nat → Int64) (g : Nat → zC) {n : Nat} {E : Nat → Nat} (hE : eaR n P E) {G : Nat → Int32} (hG : gfR (O 12) G) {a b : Nat} (hab : a < b) (hb : b ≤ n) (hn : n ≤ 20) {L : Nat → Nat → Nat} (hY : ∀ c d, a ≤ c → c < d → d ≤ b → d - c < b - a → Y (34 + c) d = lN (L c d)) (hB : BD L a b) {K1 K2 : Nat → Bool} {k : Int32} (hK1 : kdR (k &&& O 10) K1) (hK2 : kdR (k &&& O 11) K2) {x y : Int32} (ex : x = nI a) (ey : y = nI b) : zK 3 zX0_waysOf [.ref 31, .int x, .int y, .int k] (wX O P Y g) (fun r w' => w' = wX O P Y g ∧ r = some (.long (lN (bS E G L K1 a b + (if brE E a b then bS E G L K2 (a + 1) (b - 1) else 0))))) := by
  subst ex ey
  refine zK_of qX0_waysOf (by decide +kernel) rfl ?_
  iterate 7 (refine zv_step (bX0_waysOf 3) rfl rfl trivial ?_)
  refine zv_V3 (bX0_waysOf 3) rfl rfl rfl rfl rfl rfl rfl ⟨rfl, rfl, rfl⟩ ⟨by decide, by decide⟩ ⟨Nat.zero_le _, Nat.zero_le _⟩ (hBareX O P Y g hE hG hab hb hn hY hB hK1 rfl rfl) ?_
  rintro _ _ ⟨rfl, rfl⟩
  iterate 4 (refine zv_step (bX0_waysOf 3) rfl rfl trivial ?_)
  refine zv_V2 (bX0_waysOf 3) rfl rfl rfl rfl rfl rfl rfl ⟨rfl, rfl, rfl⟩ ⟨by decide, by decide⟩ ⟨Nat.zero_le _, Nat.zero_le _⟩ (hBr O P Y g hab (by omega)) ?_
  rintro _ _ ⟨rfl, ⟨hh, rfl⟩ | ⟨hh, rfl⟩⟩
  · have hq := (br_E hE hab hb).mp hh
    have h3 := hq.1
    iterate 1 (refine zv_step (bX0_waysOf 3) rfl rfl trivial ?_)
    refine zv_iff (by decide) ?_
    iterate 12 (refine zv_step (bX0_waysOf 3) rfl rfl trivial ?_)
    refine zv_V3 (bX0_waysOf 3) rfl rfl rfl rfl rfl rfl rfl ⟨rfl, rfl, rfl⟩ ⟨by decide, by decide⟩ ⟨Nat.zero_le _, Nat.zero_le _⟩ (hBareX O P Y g hE hG (a := a + 1) (b := b - 1) (by omega) (by omega) hn (fun c d h1 h2 h3 h4 => hY c d (by omega) h2 (by omega) (by omega)) (BD_in hB (by omega) (by omega)) hK2 (nI_1 a) (sub_1 (by omega))) ?_
    rintro _ _ ⟨rfl, rfl⟩
    iterate 2 (refine zv_step (bX0_waysOf 3) rfl rfl trivial ?_)
    exact zv_lret (bX0_waysOf 3) rfl rfl (Nat.zero_le _) (Nat.zero_le _) ⟨rfl, congrArg (fun v => some (Value.long v)) (by rw [if_pos hq.2]; exact lN_add _ _)⟩
  · have hq := fun q => hh ((br_E hE hab hb).mpr q)
    iterate 1 (refine zv_step (bX0_waysOf 3) rfl rfl trivial ?_)
    refine zv_ift (by decide) ?_
    iterate 1 (refine zv_step (bX0_waysOf 3) rfl rfl trivial ?_)
    exact zv_lret (bX0_waysOf 3) rfl rfl (Nat.zero_le _) (Nat.zero_le _) ⟨rfl, congrArg (fun v => some (Value.long v)) (by
      rcases Nat.lt_or_ge 2 (b - a) with h3 | h3
      · rw [if_neg (show ¬ brE E a b from fun q => hq ⟨h3, q⟩)]; rfl
      · rw [bS_n K2 (by omega)]; split <;> rfl)⟩
/-- what the class's table of ways holds -/
def lY (Y : Nat → Nat → Int64) (i j : Nat) : Nat := (Y (34 + i) j).toInt.toNat
def okY (n : Nat) (E : Nat → Nat) (G : Nat → Int32) (lt : Nat → Nat → Bool) (Y : Nat → Nat → Int64) (w i0 : Nat) : Prop := ∀ i j, i < j → j ≤ n → (j - i < w ∨ (j - i = w ∧ i < i0)) → Y (34 + i) j = lN (lY Y i j) ∧ lY Y i j = tS E G lt (lY Y) i j ∧ lY Y i j ≤ 5 ^ (j - i - 1)
theorem vpL_self (f : Nat → Int64) (i : Nat) (x : Int64) : vp_updL f i x i = x := by
  unfold vp_updL
  exact if_pos rfl
theorem vpL_ne (f : Nat → Int64) {i j : Nat} (x : Int64) (h : j ≠ i) : vp_updL f i x j = f j := by
  unfold vp_updL
  exact if_neg h
theorem okY_set {n : Nat} (hn : n ≤ 20) {E : Nat → Nat} {G : Nat → Int32} {lt : Nat → Nat → Bool} {Y : Nat → Nat → Int64} {w i : Nat} (hw : 1 ≤ w) (hi : i + w ≤ n) (h : okY n E G lt Y w i) : okY n E G lt (updJ Y (34 + i) (vp_updL (Y (34 + i)) (i + w) (lN (tS E G lt (lY Y) i (i + w))))) w (i + 1) := by
  have fr : ∀ c d, c < d → ¬ (c = i ∧ d = i + w) → updJ Y (34 + i) (vp_updL (Y (34 + i)) (i + w) (lN (tS E G lt (lY Y) i (i + w)))) (34 + c) d = Y (34 + c) d := by
    intro c d _ hne
    unfold updJ
    by_cases e : c = i
    · subst e
      rw [if_pos rfl]
      exact vpL_ne _ _ (fun q => hne ⟨rfl, q⟩)
    · rw [if_neg (by omega)]
  have frL : ∀ c d, c < d → ¬ (c = i ∧ d = i + w) → lY (updJ Y (34 + i) (vp_updL (Y (34 + i)) (i + w) (lN (tS E G lt (lY Y) i (i + w))))) c d = lY Y c d := fun c d h1 h2 => by
    show (updJ Y (34 + i) (vp_updL (Y (34 + i)) (i + w) (lN (tS E G lt (lY Y) i (i + w)))) (34 + c) d).toInt.toNat = (Y (34 + c) d).toInt.toNat
    rw [fr c d h1 h2]
  have hb : BD (lY Y) i (i + w) := fun a b q1 q2 q3 q4 => (h a b q2 (by omega) (by omega)).2.2
  have ht := tS_le (E := E) (G := G) hb (by omega) (by omega) lt
  have hc : tS E G lt (lY Y) i (i + w) < 2 ^ 62 := by
    have := pow5_cap1 (n := i + w - i - 1) (by omega)
    unfold cap at this
    omega
  intro c d h1 h2 h3
  by_cases e : c = i ∧ d = i + w
  · obtain ⟨rfl, rfl⟩ := e
    have e1 : updJ Y (34 + c) (vp_updL (Y (34 + c)) (c + w) (lN (tS E G lt (lY Y) c (c + w)))) (34 + c) (c + w) = lN (tS E G lt (lY Y) c (c + w)) := by
      unfold updJ
      rw [if_pos rfl]
      exact vpL_self _ _ _
    have e2 : lY (updJ Y (34 + c) (vp_updL (Y (34 + c)) (c + w) (lN (tS E G lt (lY Y) c (c + w))))) c (c + w) = tS E G lt (lY Y) c (c + w) := by
      show (updJ Y (34 + c) (vp_updL (Y (34 + c)) (c + w) (lN (tS E G lt (lY Y) c (c + w)))) (34 + c) (c + w)).toInt.toNat = _
      rw [e1]
      exact lN_cl hc
    have e3 : tS E G lt (lY Y) c (c + w) = tS E G lt (lY (updJ Y (34 + c) (vp_updL (Y (34 + c)) (c + w) (lN (tS E G lt (lY Y) c (c + w)))))) c (c + w) := tS_cg (fun a b q1 q2 q3 q4 => (frL a b q2 (fun q => by omega)).symm)
    refine ⟨by rw [e2]; exact e1, ?_, ?_⟩
    · rw [e2]
      exact e3
    · rw [e2]
      exact ht
  · obtain ⟨a1, a2, a3⟩ := h c d h1 h2 (by omega)
    refine ⟨by rw [fr c d h1 e, frL c d h1 e]; exact a1, ?_, by rw [frL c d h1 e]; exact a3⟩
    rw [frL c d h1 e, a2]
    refine tS_cg (fun a b q1 q2 q3 q4 => (frL a b q2 (fun q => ?_)).symm)
    omega
def okZ (Y0 : Nat → Nat → Int64) (n : Nat) (E : Nat → Nat) (G : Nat → Int32) (lt : Nat → Nat → Bool) (Y : Nat → Nat → Int64) (w i0 : Nat) : Prop := okY n E G lt Y w i0 ∧ (wyI Y0 → wyI Y)
theorem okZ_set {Y0 : Nat → Nat → Int64} {n : Nat} (hn : n ≤ 20) {E : Nat → Nat} {G : Nat → Int32} {lt : Nat → Nat → Bool} {Y : Nat → Nat → Int64} {w i : Nat} (hw : 1 ≤ w) (hi : i + w ≤ n) (h : okZ Y0 n E G lt Y w i) : okZ Y0 n E G lt (updJ Y (34 + i) (vp_updL (Y (34 + i)) (i + w) (lN (tS E G lt (lY Y) i (i + w))))) w (i + 1) := by
  refine ⟨okY_set hn hw hi h.1, fun q => wyI_set (h.2 q) ?_⟩
  have hb : BD (lY Y) i (i + w) := fun a b q1 q2 q3 q4 => (h.1 a b q2 (by omega) (by omega)).2.2
  have ht := tS_le (E := E) (G := G) hb (by omega) (by omega) lt
  have hc := pow5_cap1 (n := i + w - i - 1) (by omega)
  have h8 : 5 ^ (i + w - i - 1) ≤ 8 ^ (i + w - i - 1) := Nat.pow_le_pow_left (by decide) _
  unfold cap at hc
  refine ⟨by rw [lN_T (by omega)]; omega, by rw [lN_T (by omega)]; exact Int.ofNat_le.mpr (by omega)⟩
set_option maxHeartbeats 1000000 in
set_option maxRecDepth 20000 in
theorem hTalIX (O : Nat → Int32) (P : Nat → Nat → Int32) (g : Nat → zC) {n : Nat} {E : Nat → Nat} (hE : eaR n P E) {G : Nat → Int32} (hG : gfR (O 12) G) (hO : O 9 = nI n) (hn : n ≤ 20) {lt : Nat → Nat → Bool} (h0 : kdR ((Int16.ofInt 1023).toInt32 &&& O 10) (fun k => lt k 0)) (h1 : kdR ((Int16.ofInt 1023).toInt32 &&& O 11) (fun k => lt k 1)) (u1 u2 u3 : Int32) {Y0 : Nat → Nat → Int64} {n0 m : Nat} {Q : Option Value → zW → Prop} (hm : 1 ≤ m) (hmn : m ≤ n) (kk : ∀ (Y' : Nat → Nat → Int64) (x5 : Int32), okZ Y0 n E G lt Y' (m + 1) 0 → zV (zMo 4 zX0_tally) false n0 0 0 75 [(5, .int x5), (4, .int (nI m)), (0, .ref 31), (1, .int u1), (2, .int u2), (3, .int u3)] [] (wX O P Y' g) Q) : ∀ (c i : Nat) (Y : Nat → Nat → Int64), okZ Y0 n E G lt Y m i → i + m + c = n + 1 → ∀ {x5 : Int32}, x5 = nI i → zV (zMo 4 zX0_tally) false n0 0 0 30 [(5, .int x5), (4, .int (nI m)), (0, .ref 31), (1, .int u1), (2, .int u2), (3, .int u3)] [] (wX O P Y g) Q := by
  intro c
  induction c with
  | zero =>
    intro i Y hY hc x5 e5
    subst e5
    iterate 6 (refine zv_step (bX0_tally 4) rfl rfl trivial ?_)
    refine zv_ift (show O 9 < nI i + nI m by rw [hO, nI_plus]; exact nI_lt (by omega) (by omega)) ?_
    exact kk Y _ ⟨fun c d q1 q2 q3 => hY.1 c d q1 q2 (by omega), hY.2⟩
  | succ c ih =>
    intro i Y hY hc x5 e5
    subst e5
    iterate 6 (refine zv_step (bX0_tally 4) rfl rfl trivial ?_)
    refine zv_iff (show ¬ O 9 < nI i + nI m by rw [hO, nI_plus]; exact nI_nlt (by omega) (by omega)) ?_
    iterate 3 (refine zv_step (bX0_tally 4) rfl rfl trivial ?_)
    refine zv_aald (bX0_tally 4) rfl (Or.inr rfl) rfl (show vp_in (nI i) 21 by exact vp_in_nI (by omega) (by decide)) (show ([some 34, some 35, some 36, some 37, some 38, some 39, some 40, some 41, some 42, some 43, some 44, some 45, some 46, some 47, some 48, some 49, some 50, some 51, some 52, some 53, some 54] : List (Option Nat)).getD (nI i).toNatClampNeg none = some (34 + (i)) by rw [nI_clamp (by omega)]; exact dLs (by omega)) ?_
    iterate 9 (refine zv_step (bX0_tally 4) rfl rfl trivial ?_)
    refine zv_V3 (bX0_tally 4) rfl rfl rfl rfl rfl rfl rfl ⟨rfl, rfl, rfl⟩ ⟨by decide, by decide⟩ ⟨Nat.zero_le _, Nat.zero_le _⟩ (hWaysX O P Y g hE hG (a := i) (b := i + m) (by omega) (by omega) hn (L := lY Y) (fun c d q1 q2 q3 q4 => (hY.1 c d q2 (by omega) (by omega)).1) (fun c d q1 q2 q3 q4 => (hY.1 c d q2 (by omega) (by omega)).2.2) h0 h1 rfl (nI_plus i m)) ?_
    rintro _ _ ⟨rfl, rfl⟩
    refine zv_last (bX0_tally 4) rfl (wY O P Y g (by omega)) (show vp_in (nI i + nI m) 21 by rw [nI_plus]; exact vp_in_nI (by omega) (by decide)) ?_
    rw [wYset O P Y g _ (by omega), show (nI i + nI m).toNatClampNeg = i + m by rw [nI_plus, nI_clamp (by omega)]]
    iterate 2 (refine zv_step (bX0_tally 4) rfl rfl trivial ?_)
    exact ih (i + 1) _ (okZ_set hn hm (by omega) hY) (by omega) (nI_1 i)
def ctY (n : Nat) (Y : Nat → Nat → Int64) : Nat := if n = 0 then 0 else lY Y 0 n
set_option maxHeartbeats 1000000 in
set_option maxRecDepth 20000 in
theorem hTalOX (O : Nat → Int32) (P : Nat → Nat → Int32) (g : Nat → zC) {n : Nat} {E : Nat → Nat} (hE : eaR n P E) {G : Nat → Int32} (hG : gfR (O 12) G) (hO : O 9 = nI n) (hn : n ≤ 20) {lt : Nat → Nat → Bool} (h0 : kdR ((Int16.ofInt 1023).toInt32 &&& O 10) (fun k => lt k 0)) (h1 : kdR ((Int16.ofInt 1023).toInt32 &&& O 11) (fun k => lt k 1)) (u1 u2 u3 : Int32) {Y0 : Nat → Nat → Int64} {n0 : Nat} : ∀ (c m : Nat) (Y : Nat → Nat → Int64), okZ Y0 n E G lt Y m 0 → m + c = n + 1 → 1 ≤ m → ∀ {x4 : Int32}, x4 = nI m → zV (zMo 4 zX0_tally) false n0 0 0 18 [(4, .int x4), (0, .ref 31), (1, .int u1), (2, .int u2), (3, .int u3)] [] (wX O P Y g) (fun r w' => ∃ (Y' : Nat → Nat → Int64), r = some (.long (lN (ctY n Y'))) ∧ w' = wX O P Y' g ∧ okZ Y0 n E G lt Y' (n + 1) 0) := by
  intro c
  induction c with
  | zero =>
    intro m Y hY hc hm x4 e4
    subst e4
    iterate 4 (refine zv_step (bX0_tally 4) rfl rfl trivial ?_)
    refine zv_ift (show O 9 < nI m by rw [hO]; exact nI_lt (by omega) (by omega)) ?_
    iterate 3 (refine zv_step (bX0_tally 4) rfl rfl trivial ?_)
    refine zv_ifb (fun h85 => ?_) (fun h85 => ?_)
    · have q85 : ¬ n = 0 := fun e => h85 (by show O 9 = 0; rw [hO, e]; rfl)
      iterate 3 (refine zv_step (bX0_tally 4) rfl rfl trivial ?_)
      refine zv_aald (bX0_tally 4) rfl (Or.inr rfl) rfl (show vp_in (Int32.ofInt 0) 21 by rw [show Int32.ofInt 0 = nI 0 from rfl]; exact vp_in_nI (by omega) (by decide)) (show ([some 34, some 35, some 36, some 37, some 38, some 39, some 40, some 41, some 42, some 43, some 44, some 45, some 46, some 47, some 48, some 49, some 50, some 51, some 52, some 53, some 54] : List (Option Nat)).getD (Int32.ofInt 0).toNatClampNeg none = some (34 + (0)) by rw [show Int32.ofInt 0 = nI 0 from rfl, nI_clamp (by omega)]; exact dLs (by omega)) ?_
      iterate 2 (refine zv_step (bX0_tally 4) rfl rfl trivial ?_)
      refine zv_lale (bX0_tally 4) rfl (wY O P Y g (by omega)) (show vp_in (O 9) 21 by rw [hO]; exact vp_in_nI (by omega) (by decide)) (show Y (34 + 0) (O 9).toNatClampNeg = lN (lY Y 0 n) by rw [hO, nI_clamp (by omega)]; exact (hY.1 0 n (by omega) (Nat.le_refl _) (by omega)).1) ?_
      exact zv_lret (bX0_tally 4) rfl rfl (Nat.zero_le _) (Nat.zero_le _) ⟨Y, congrArg (fun v => some (Value.long v)) (by unfold ctY; rw [if_neg q85]), rfl, ⟨fun c d q1 q2 q3 => hY.1 c d q1 q2 (by omega), hY.2⟩⟩
    · have q85 : n = 0 := (nI_eq (b := 0) (by omega) (by decide)).mp (by rw [← hO]; exact Decidable.not_not.mp h85)
      iterate 2 (refine zv_step (bX0_tally 4) rfl rfl trivial ?_)
      exact zv_lret (bX0_tally 4) rfl rfl (Nat.zero_le _) (Nat.zero_le _) ⟨Y, congrArg (fun v => some (Value.long v)) (by unfold ctY; rw [if_pos q85]; rfl), rfl, ⟨fun c d q1 q2 q3 => hY.1 c d q1 q2 (by omega), hY.2⟩⟩
  | succ c ih =>
    intro m Y hY hc hm x4 e4
    subst e4
    iterate 4 (refine zv_step (bX0_tally 4) rfl rfl trivial ?_)
    refine zv_iff (show ¬ O 9 < nI m by rw [hO]; exact nI_nlt (by omega) (by omega)) ?_
    iterate 2 (refine zv_step (bX0_tally 4) rfl rfl trivial ?_)
    refine hTalIX O P g hE hG hO hn h0 h1 u1 u2 u3 hm (by omega) (fun Y' x5 hY2 => ?_) (n + 1 - m) 0 Y hY (by omega) rfl
    iterate 2 (refine zv_step (bX0_tally 4) rfl rfl trivial ?_)
    refine zv_locals (l := [(4, .int (nI m + Int32.ofInt 1)), (5, .int x5), (0, .ref 31), (1, .int u1), (2, .int u2), (3, .int u3)]) (l' := [(4, .int (nI m + Int32.ofInt 1)), (0, .ref 31), (1, .int u1), (2, .int u2), (3, .int u3)]) ?_ (ih (m + 1) Y' hY2 (by omega) (by omega) (nI_1 m))
    simp
set_option maxHeartbeats 1000000 in
set_option maxRecDepth 20000 in
theorem hTallyX (O : Nat → Int32) (P : Nat → Nat → Int32) (Y : Nat → Nat → Int64) (g : Nat → zC) {n : Nat} {E : Nat → Nat} (hE : eaR n P E) {G : Nat → Int32} (hO : O 9 = nI n) (hn : n ≤ 20) {lt : Nat → Nat → Bool} {u1 u2 u3 : Int32} (hG : gfR u3 G) (h0 : kdR ((Int16.ofInt 1023).toInt32 &&& u1) (fun k => lt k 0)) (h1 : kdR ((Int16.ofInt 1023).toInt32 &&& u2) (fun k => lt k 1)) : zK 4 zX0_tally [.ref 31, .int u1, .int u2, .int u3] (wX O P Y g) (fun r w' => ∃ (Y' : Nat → Nat → Int64), r = some (.long (lN (ctY n Y'))) ∧ w' = wX (upd (upd (upd O 10 u1) 11 u2) 12 u3) P Y' g ∧ okZ Y n E G lt Y' (n + 1) 0) := by
  refine zK_of qX0_tally (by decide +kernel) rfl ?_
  iterate 11 (refine zv_step (bX0_tally 4) rfl rfl trivial ?_)
  exact hTalOX (upd (upd (upd O 10 u1) 11 u2) 12 u3) P g hE hG hO hn h0 h1 u1 u2 u3 n 1 Y ⟨fun c d q1 q2 q3 => by omega, id⟩ (by omega) (Nat.le_refl _) rfl
end
section
theorem nI_and (a b : Nat) : nI a &&& nI b = nI (a &&& b) := by
  apply Int32.toBitVec_inj.mp
  rw [Int32.toBitVec_and]
  show BitVec.ofNat 32 a &&& BitVec.ofNat 32 b = BitVec.ofNat 32 (a &&& b)
  exact (BitVec.ofNat_and ..).symm
theorem shl_k : ∀ k, k < 10 → Int32.ofInt 1 <<< (nI k &&& 31) = nI (2 ^ k) := by decide +kernel
/-- a set of KINDS as bits -/
def btR (x : Int32) (K : Nat → Bool) : Prop := ∃ m, m < 1024 ∧ x = nI m ∧ ∀ k, k < 10 → m.testBit k = K k
theorem btR_kd {x : Int32} {K : Nat → Bool} (h : btR x K) : kdR x K := fun k hk => by
  obtain ⟨m, hm, rfl, hb⟩ := h
  rw [hb_bt m hm k hk]
  unfold bt
  rw [hb k hk]
  cases K k <;> decide
theorem btR_1 {x : Int32} {K : Nat → Bool} (h : btR x K) : btR ((Int16.ofInt 1023).toInt32 &&& x) K := by
  obtain ⟨m, hm, rfl, hb⟩ := h
  refine ⟨1023 &&& m, Nat.lt_of_le_of_lt Nat.and_le_right hm, nI_and 1023 m, fun k hk => ?_⟩
  rw [Nat.testBit_and, t1023 k hk, Bool.true_and]
  exact hb k hk
theorem btR_k {x : Int32} {K : Nat → Bool} (h : btR x K) {q : Nat} (hq : q < 10) : btR (x &&& (Int32.ofInt 1 <<< (nI q &&& 31))) (fun k => K k && decide (k = q)) := by
  obtain ⟨m, hm, rfl, hb⟩ := h
  refine ⟨m &&& 2 ^ q, Nat.lt_of_le_of_lt Nat.and_le_left hm, by rw [shl_k q hq, nI_and], fun k hk => ?_⟩
  rw [Nat.testBit_and, Nat.testBit_two_pow, hb k hk]
  by_cases e : k = q
  · subst e
    simp
  · show (K k && decide (q = k)) = (K k && decide (k = q))
    rw [decide_eq_false e, decide_eq_false (fun h => e h.symm)]
theorem kS_one {K : Nat → Bool} {w : Nat → Nat} {q : Nat} : ∀ c, kS (fun k => K k && decide (k = q)) w c = if q < c ∧ K q = true then w q else 0
  | 0 => by rw [if_neg (fun h => absurd h.1 (Nat.not_lt_zero _))]; rfl
  | c + 1 => by
    show kS (fun k => K k && decide (k = q)) w c + (if (K c && decide (c = q)) = true then w c else 0) = _
    rw [kS_one c]
    by_cases e : c = q
    · subst e
      rw [if_neg (show ¬ (c < c ∧ K c = true) from fun h => absurd h.1 (Nat.lt_irrefl _)), decide_eq_true rfl, Bool.and_true]
      by_cases h : K c = true
      · rw [if_pos h, if_pos (show c < c + 1 ∧ K c = true from ⟨Nat.lt_succ_self _, h⟩), Nat.zero_add]
      · rw [if_neg h, if_neg (show ¬ (c < c + 1 ∧ K c = true) from fun q => h q.2)]
    · rw [decide_eq_false e, Bool.and_false, if_neg (show ¬ (false = true) by decide), Nat.add_zero]
      by_cases h : q < c ∧ K q = true
      · rw [if_pos h, if_pos (show q < c + 1 ∧ K q = true from ⟨by omega, h.2⟩)]
      · rw [if_neg h, if_neg (show ¬ (q < c + 1 ∧ K q = true) from fun w => h ⟨by omega, w.2⟩)]
theorem bS_one {E : Nat → Nat} {G : Nat → Int32} {L : Nat → Nat → Nat} {K : Nat → Bool} {q i j : Nat} (hq : q < 10) : bS E G L (fun k => K k && decide (k = q)) i j = if K q = true then wi E G L q i j else 0 := by
  unfold bS
  rw [kS_one]
  by_cases h : K q = true
  · rw [if_pos h, if_pos ⟨hq, h⟩]
  · rw [if_neg h, if_neg (fun w => h w.2)]
abbrev m1 : Int32 := Int32.ofInt (-1)
/-- a NODE is put on a page of the class -/
noncomputable def stC (b : Nat) (P : Nat → Nat → Int32) (u : Nat) (k v x y _sh : Int32) : Nat → Nat → Int32 := updA (adI b (nI u) (adI b (nI u) (putV b P u k v x y (owW k v) (hbW (Int16.ofInt 764).toInt32 k) (if k = 0 then Int32.ofInt 1 <<< (v &&& 31) else Int32.ofInt 0) (if k = c8 9 then Int32.ofInt 1 <<< (v &&& 31) else Int32.ofInt 0)) u x) u y) (b + 11) (upd ((adI b (nI u) (adI b (nI u) (putV b P u k v x y (owW k v) (hbW (Int16.ofInt 764).toInt32 k) (if k = 0 then Int32.ofInt 1 <<< (v &&& 31) else Int32.ofInt 0) (if k = c8 9 then Int32.ofInt 1 <<< (v &&& 31) else Int32.ofInt 0)) u x) u y) (b + 11)) u (faW b (nI u) (adI b (nI u) (adI b (nI u) (putV b P u k v x y (owW k v) (hbW (Int16.ofInt 764).toInt32 k) (if k = 0 then Int32.ofInt 1 <<< (v &&& 31) else Int32.ofInt 0) (if k = c8 9 then Int32.ofInt 1 <<< (v &&& 31) else Int32.ofInt 0)) u x) u y) u u 0))
theorem stC_o {b : Nat} {P : Nat → Nat → Int32} {u i : Nat} {k v x y sh : Int32} (h : ¬ (b < i ∧ i ≤ b + 12)) : stC b P u k v x y sh i = P i := by
  unfold stC
  rw [updA_ne _ _ (by omega), adI_row _ _ _ _ (by omega), adI_row _ _ _ _ (by omega), putV_o _ _ _ _ _ _ _ _ _ _ (by omega)]
/-- one more of a row of KINDS and v's: the page, how many NODES, the NODES that are no PARTS yet -/
noncomputable def tkC (b : Nat) (t : Nat × Nat) (s : (Nat → Nat → Int32) × Nat × List Nat) (sh : Int32) : (Nat → Nat → Int32) × Nat × List Nat :=
  if t.1 < 2 then (stC b s.1 s.2.1 (nI t.1) (nI t.2) m1 m1 sh, s.2.1 + 1, s.2.1 :: s.2.2)
  else if t.1 ≤ 6 then (stC b s.1 s.2.1 (nI t.1) m1 (nI (s.2.2.getD 1 0)) (nI (s.2.2.getD 0 0)) sh, s.2.1 + 1, s.2.1 :: s.2.2.drop 2)
  else (stC b s.1 s.2.1 (nI t.1) (if t.1 = 9 then nI t.2 else m1) (nI (s.2.2.getD 0 0)) m1 sh, s.2.1 + 1, s.2.1 :: s.2.2.drop 1)
def lyC (b : Nat) : List (Nat × Nat) → (Nat → Nat → Int32) × Nat × List Nat → (Nat → Nat → Int32) × Nat × List Nat → Prop
  | [], s, s' => s = s'
  | t :: T, s, s' => ∃ sh, lyC b T (tkC b t s sh) s'
theorem lyC_app {b : Nat} : ∀ (X Y : List (Nat × Nat)) (s m s' : (Nat → Nat → Int32) × Nat × List Nat), lyC b X s m → lyC b Y m s' → lyC b (X ++ Y) s s'
  | [], Y, s, m, s', h, g => by
    have e : s = m := h
    rw [e]
    exact g
  | t :: X, Y, s, m, s', ⟨sh, h⟩, g => ⟨sh, lyC_app X Y _ m s' h g⟩
theorem eaR_r {n : Nat} {P P0 : Nat → Nat → Int32} {E : Nat → Nat} (h : eaR n P0 E) (e : P 32 = P0 32) : eaR n P E := fun i hi => by
  rw [e]
  exact h i hi
theorem tk_0 {b k v u : Nat} {P : Nat → Nat → Int32} {st : List Nat} {sh : Int32} (h : k < 2) : lyC b [(k, v)] (P, u, st) (stC b P u (nI k) (nI v) m1 m1 sh, u + 1, u :: st) := ⟨sh, by
  show tkC b (k, v) (P, u, st) sh = _
  unfold tkC
  rw [if_pos h]⟩
theorem tk_1 {b k v u x : Nat} {P : Nat → Nat → Int32} {st : List Nat} {sh : Int32} (h : 7 ≤ k) : lyC b [(k, v)] (P, u, x :: st) (stC b P u (nI k) (if k = 9 then nI v else m1) (nI x) m1 sh, u + 1, u :: st) := ⟨sh, by
  show tkC b (k, v) (P, u, x :: st) sh = _
  unfold tkC
  rw [if_neg (by show ¬ k < 2; omega), if_neg (by show ¬ k ≤ 6; omega)]
  rfl⟩
theorem tk_2 {b k v u x y : Nat} {P : Nat → Nat → Int32} {st : List Nat} {sh : Int32} (h : 2 ≤ k) (h6 : k ≤ 6) : lyC b [(k, v)] (P, u, y :: x :: st) (stC b P u (nI k) m1 (nI x) (nI y) sh, u + 1, u :: st) := ⟨sh, by
  show tkC b (k, v) (P, u, y :: x :: st) sh = _
  unfold tkC
  rw [if_neg (by show ¬ k < 2; omega), if_pos (by show k ≤ 6; omega)]
  rfl⟩
theorem putX1 {O : Nat → Int32} {P : Nat → Nat → Int32} {Y : Nat → Nat → Int64} {g : Nat → zC} {m : Nat} {k v x y : Int32} (hm : m < 120) {r : Option Value} {w' : zW} (h : r = some (.int (nI m)) ∧ ∃ sh ch le ca, ch = hbW (Int16.ofInt 764).toInt32 k ∧ le = (if k = 0 then Int32.ofInt 1 <<< (v &&& 31) else Int32.ofInt 0) ∧ ca = (if k = c8 9 then Int32.ofInt 1 <<< (v &&& 31) else Int32.ofInt 0) ∧ sh = faW 1 (nI m) (adI 1 (nI m) (adI 1 (nI m) (putV 1 P (nC (nI m)) k v x y (owW k v) ch le ca) (nC (nI m)) x) (nC (nI m)) y) m m 0 ∧ w' = wX (upd (upd O 1 (nI m)) 1 (nI m + Int32.ofInt 1)) (updA (adI 1 (nI m) (adI 1 (nI m) (putV 1 P (nC (nI m)) k v x y (owW k v) ch le ca) (nC (nI m)) x) (nC (nI m)) y) 12 (upd ((adI 1 (nI m) (adI 1 (nI m) (putV 1 P (nC (nI m)) k v x y (owW k v) ch le ca) (nC (nI m)) x) (nC (nI m)) y) 12) (nC (nI m)) sh)) Y g) : r = some (.int (nI m)) ∧ ∃ sh, w' = wX (upd O 1 (nI (m + 1))) (stC 1 P m k v x y sh) Y g := by
  obtain ⟨h1, sh, _, _, _, rfl, rfl, rfl, rfl, h2⟩ := h
  refine ⟨h1, 0, ?_⟩
  rw [h2, show nC (nI m) = m from nI_clamp (by omega), upd2, show nI m + Int32.ofInt 1 = nI (m + 1) from nI_1 m]
  rfl
set_option maxHeartbeats 1000000 in
set_option maxRecDepth 20000 in
theorem hBPLX1 {O : Nat → Int32} {Y : Nat → Nat → Int64} {g : Nat → zC} {P0 : Nat → Nat → Int32} {n : Nat} {E : Nat → Nat} (hE0 : eaR n P0 E) (hn : n ≤ 20) {G : Nat → Int32} (hG : gfR (O 12) G) {lt : Nat → Nat → Bool} (h0 : btR (O 10) (fun k => lt k 0)) (h1 : btR (O 11) (fun k => lt k 1)) {L : Nat → Nat → Nat} (hY : ∀ c d, c < d → d ≤ n → Y (34 + c) d = lN (L c d)) (hB : ∀ c d, c < d → d ≤ n → L c d ≤ 5 ^ (d - c - 1)) {f : Nat} (ih : ∀ (i j p : Nat) (T : List (Nat × Nat)) (x y : Int32) (z : Int64), x = nI i → y = nI j → z = lN p → i < j → j ≤ n → j - i ≤ f → RT E (mG E G lt L) L f i j p T → ∀ (u : Nat) (P : Nat → Nat → Int32) (st : List Nat), P 32 = P0 32 → u + T.length ≤ 120 → zK (3 * f + 4) zX0_buildSpan [.ref 31, .ref 1, .int x, .int y, .long z] (wX (upd O 1 (nI (u))) P Y g) (fun r w' => ∃ P' : Nat → Nat → Int32, r = some (.int (nI (u + T.length - 1))) ∧ w' = wX (upd O 1 (nI (u + T.length))) P' Y g ∧ lyC 1 T (P, u, st) (P', u + T.length, (u + T.length - 1) :: st) ∧ (∀ i, ¬ (1 < i ∧ i ≤ 13) → P' i = P i) ∧ 1 ≤ T.length)) {u : Nat} {P : Nat → Nat → Int32} {st : List Nat} (hP : P 32 = P0 32) {kn a b c r : Nat} {X1 Y1 : List (Nat × Nat)} (k2 : 2 ≤ kn) (k6 : kn ≤ 6) (hb : b ≤ n) (hf : b - a ≤ f + 1) (hc : a + 1 + c + 1 < b) (hEc : E (a + 1 + c) = 18 + kn) (hr : r < tmW (L a (a + 1 + c)) (L (a + 1 + c + 1) b)) (hX : RT E (mG E G lt L) L f a (a + 1 + c) (r / L (a + 1 + c + 1) b) X1) (hY1 : RT E (mG E G lt L) L f (a + 1 + c + 1) b (r % L (a + 1 + c + 1) b) Y1) (hu : u + (X1.length + Y1.length + 1) ≤ 120) (hq9 : pfS E L kn a b c + r < 2 ^ 62) (kk : Int64) {n0 : Nat} : ∀ (w d : Nat), d + w = c → ∀ {x9 : Int32}, x9 = nI (a + 1 + d) → zV (zMo (3 * f + 5) zX0_buildPair) false n0 0 0 9 [(9, .int (x9)), (7, .long (lN (pfS E L kn a b c + r - pfS E L kn a b d))), (0, .ref 31), (1, .ref 1), (2, .int (nI kn)), (3, .int (nI a)), (4, .int (nI b)), (5, .long kk)] [] (wX (upd O 1 (nI (u))) P Y g) (fun r w' => ∃ P' : Nat → Nat → Int32, r = some (.int (nI (u + (X1 ++ Y1 ++ [(kn, 0)]).length - 1))) ∧ w' = wX (upd O 1 (nI (u + (X1 ++ Y1 ++ [(kn, 0)]).length))) P' Y g ∧ lyC 1 (X1 ++ Y1 ++ [(kn, 0)]) (P, u, st) (P', u + (X1 ++ Y1 ++ [(kn, 0)]).length, (u + (X1 ++ Y1 ++ [(kn, 0)]).length - 1) :: st) ∧ (∀ i, ¬ (1 < i ∧ i ≤ 13) → P' i = P i) ∧ 1 ≤ (X1 ++ Y1 ++ [(kn, 0)]).length) := by
  have hE := eaR_r hE0 hP
  have hBD : BD L a b := fun c d _ h2 h3 _ => hB c d h2 (by omega)
  have hlen : (X1 ++ Y1 ++ [(kn, 0)]).length = X1.length + Y1.length + 1 := by rw [List.length_append, List.length_append]; rfl
  obtain ⟨g0, g1, g2⟩ := tm_dm hr
  have hcap : ∀ c d, c < d → d ≤ n → L c d ≤ cap := fun c d h2 h3 => Nat.le_trans (hB c d h2 h3) (pow5_cap1 (by omega))
  have htm : ∀ d, a + 1 + d + 1 < b → lN (L a (a + 1 + d)) * lN (L (a + 1 + d + 1) b) = lN (tmW (L a (a + 1 + d)) (L (a + 1 + d + 1) b)) := fun d hd => by
    rw [lN_mul, tmW_eq (Nat.le_trans (tm_5 hBD hd) (pow5_cap1 (by omega)))]
  have hr9 : r < 2 ^ 62 := by have := (tmW_le (L a (a + 1 + c)) (L (a + 1 + c + 1) b)).1; unfold cap at this; omega
  have capb := hcap (a + 1 + c + 1) b (by omega) hb
  intro w
  induction w with
  | zero =>
    intro d hd x9 e9
    subst e9
    rw [show d = c by omega, show pfS E L kn a b c + r - pfS E L kn a b c = r by omega]
    iterate 5 (refine zv_step (bX0_buildPair (3 * f + 5)) rfl rfl trivial ?_)
    refine zv_iff (show ¬ nI b - Int32.ofInt 1 ≤ nI (a + 1 + c) by rw [sub_1 (by omega)]; exact fun h => absurd ((nI_leI (by omega) (by omega)).mp h) (by omega)) ?_
    iterate 3 (refine zv_step (bX0_buildPair (3 * f + 5)) rfl rfl trivial ?_)
    refine zv_iale (bX0_buildPair (3 * f + 5)) rfl rfl (show vp_in (nI (a + 1 + c)) 20 by exact vp_in_nI (by omega) (by decide)) (show P 32 (nI (a + 1 + c)).toNatClampNeg = nI (E (a + 1 + c)) by rw [nI_clamp (by omega)]; exact (hE (a + 1 + c) (by omega)).1) ?_
    iterate 4 (refine zv_step (bX0_buildPair (3 * f + 5)) rfl rfl trivial ?_)
    refine zv_ift (show nI (E (a + 1 + c)) = nI 18 + nI kn by rw [nI_add, hEc]) ?_
    iterate 5 (refine zv_step (bX0_buildPair (3 * f + 5)) rfl rfl trivial ?_)
    refine zv_aald (bX0_buildPair (3 * f + 5)) rfl (Or.inr rfl) rfl (show vp_in (nI (a + 1 + c) + Int32.ofInt 1) 21 by rw [show nI (a + 1 + c) + Int32.ofInt 1 = nI (a + 1 + c + 1) from nI_1 _]; exact vp_in_nI (by omega) (by decide)) (show ([some 34, some 35, some 36, some 37, some 38, some 39, some 40, some 41, some 42, some 43, some 44, some 45, some 46, some 47, some 48, some 49, some 50, some 51, some 52, some 53, some 54] : List (Option Nat)).getD (nI (a + 1 + c) + Int32.ofInt 1).toNatClampNeg none = some (34 + (a + 1 + c + 1)) by rw [show nI (a + 1 + c) + Int32.ofInt 1 = nI (a + 1 + c + 1) from nI_1 _, nI_clamp (by omega)]; exact dLs (by omega)) ?_
    iterate 1 (refine zv_step (bX0_buildPair (3 * f + 5)) rfl rfl trivial ?_)
    refine zv_lale (bX0_buildPair (3 * f + 5)) rfl (wY (upd O 1 (nI (u))) P Y g (by omega)) (show vp_in (nI b) 21 by exact vp_in_nI (by omega) (by decide)) (show Y (34 + (a + 1 + c + 1)) (nI b).toNatClampNeg = lN (L (a + 1 + c + 1) (b)) by rw [nI_clamp (by omega)]; exact hY _ _ (by omega) (by omega)) ?_
    iterate 4 (refine zv_step (bX0_buildPair (3 * f + 5)) rfl rfl trivial ?_)
    refine zv_aald (bX0_buildPair (3 * f + 5)) rfl (Or.inr rfl) rfl (show vp_in (nI a) 21 by exact vp_in_nI (by omega) (by decide)) (show ([some 34, some 35, some 36, some 37, some 38, some 39, some 40, some 41, some 42, some 43, some 44, some 45, some 46, some 47, some 48, some 49, some 50, some 51, some 52, some 53, some 54] : List (Option Nat)).getD (nI a).toNatClampNeg none = some (34 + (a)) by rw [nI_clamp (by omega)]; exact dLs (by omega)) ?_
    iterate 1 (refine zv_step (bX0_buildPair (3 * f + 5)) rfl rfl trivial ?_)
    refine zv_lale (bX0_buildPair (3 * f + 5)) rfl (wY (upd O 1 (nI (u))) P Y g (by omega)) (show vp_in (nI (a + 1 + c)) 21 by exact vp_in_nI (by omega) (by decide)) (show Y (34 + (a)) (nI (a + 1 + c)).toNatClampNeg = lN (L (a) (a + 1 + c)) by rw [nI_clamp (by omega)]; exact hY _ _ (by omega) (by omega)) ?_
    iterate 7 (refine zv_step (bX0_buildPair (3 * f + 5)) rfl rfl trivial ?_)
    refine zv_iff (fun h => absurd ((lN_leJ (a := tmW (L a (a + 1 + c)) (L (a + 1 + c + 1) b)) (by have := (tmW_le (L a (a + 1 + c)) (L (a + 1 + c + 1) b)).1; unfold cap at this; omega) hr9).mp (by have h9 : lN (L a (a + 1 + c)) * lN (L (a + 1 + c + 1) b) ≤ lN r := (lg_cmp_ge _ _).mp h; rwa [htm c hc] at h9)) (by omega)) ?_
    iterate 4 (refine zv_step (bX0_buildPair (3 * f + 5)) rfl rfl trivial ?_)
    refine zv_iff (fun h => absurd ((lN_leJ (b := 0) (by unfold cap at capb; omega) (by decide)).mp ((lg_cmp_le _ _).mp h)) (by omega)) ?_
    iterate 6 (refine zv_step (bX0_buildPair (3 * f + 5)) rfl rfl trivial ?_)
    refine zv_step (bX0_buildPair (3 * f + 5)) rfl rfl (fun e => absurd ((lN_eqJ (b := 0) (by unfold cap at capb; omega) (by decide)).mp e) (by omega)) ?_
    refine zv_V4 (bX0_buildPair (3 * f + 5)) rfl rfl rfl rfl rfl rfl rfl ⟨rfl, rfl, rfl⟩ ⟨by show 3 * f + 4 + 1 ≤ 3 * f + 5; omega, by show 8 + (14 + 11) + 64 * (3 * f + 4) ≤ 64 * (3 * f + 5); omega⟩ ⟨Nat.zero_le _, Nat.zero_le _⟩ (ih a (a + 1 + c) (r / L (a + 1 + c + 1) b) X1 _ _ _ rfl rfl (lN_divJ hr9 (by unfold cap at capb; omega)) (by omega) (by omega) (by omega) hX u P st hP (by omega)) ?_
    rintro _ _ ⟨P1, rfl, rfl, ly1, fr1, ln1⟩
    have hP1 : P1 32 = P0 32 := (fr1 32 (by omega)).trans hP
    iterate 9 (refine zv_step (bX0_buildPair (3 * f + 5)) rfl rfl trivial ?_)
    refine zv_step (bX0_buildPair (3 * f + 5)) rfl rfl (fun e => absurd ((lN_eqJ (b := 0) (by unfold cap at capb; omega) (by decide)).mp e) (by omega)) ?_
    refine zv_V4 (bX0_buildPair (3 * f + 5)) rfl rfl rfl rfl rfl rfl rfl ⟨rfl, rfl, rfl⟩ ⟨by show 3 * f + 4 + 1 ≤ 3 * f + 5; omega, by show 8 + (14 + 11) + 64 * (3 * f + 4) ≤ 64 * (3 * f + 5); omega⟩ ⟨Nat.zero_le _, Nat.zero_le _⟩ (ih (a + 1 + c + 1) b (r % L (a + 1 + c + 1) b) Y1 _ _ _ (nI_1 _) rfl (show lN r - lN r / lN (L (a + 1 + c + 1) b) * lN (L (a + 1 + c + 1) b) = lN (r % L (a + 1 + c + 1) b) by rw [lN_divJ hr9 (by unfold cap at capb; omega), lN_mul, lN_sub (Nat.div_mul_le_self _ _)]; congr 1; have := Nat.div_add_mod r (L (a + 1 + c + 1) b); rw [Nat.mul_comm] at this; omega) (by omega) (by omega) (by omega) hY1 (u + X1.length) P1 ((u + X1.length - 1) :: st) hP1 (by omega)) ?_
    rintro _ _ ⟨P2, rfl, rfl, ly2, fr2, ln2⟩
    iterate 6 (refine zv_step (bX0_buildPair (3 * f + 5)) rfl rfl trivial ?_)
    refine zv_V4 (bX0_buildPair (3 * f + 5)) rfl rfl rfl rfl rfl rfl rfl ⟨rfl, rfl, rfl⟩ ⟨by show 2 + 1 ≤ 3 * f + 5; omega, by show 8 + (6 + 11) + 64 * (2) ≤ 64 * (3 * f + 5); omega⟩ ⟨Nat.zero_le _, Nat.zero_le _⟩ (pPut1 (upd O 1 (nI (u + X1.length + Y1.length))) P2 Y g (show (nI (u + X1.length + Y1.length)).toInt ≤ 120 by rw [nI_toInt (by omega)]; omega) (m := u + X1.length + Y1.length) (by omega) rfl (nI kn) (m1) (nI (u + X1.length - 1)) (nI (u + X1.length + Y1.length - 1))) ?_
    rintro r9 w9 hpo
    obtain ⟨rfl, sh, rfl⟩ := putX1 (by omega) hpo
    exact zv_iret (bX0_buildPair (3 * f + 5)) rfl (Or.inl rfl) (Nat.zero_le _) (Nat.zero_le _) ⟨_, by rw [hlen, show u + (X1.length + Y1.length + 1) - 1 = u + X1.length + Y1.length by omega], by rw [hlen, show u + (X1.length + Y1.length + 1) = u + X1.length + Y1.length + 1 by omega], by
      rw [hlen, show u + (X1.length + Y1.length + 1) - 1 = u + X1.length + Y1.length by omega, show u + (X1.length + Y1.length + 1) = u + X1.length + Y1.length + 1 by omega]
      exact lyC_app _ _ _ _ _ (lyC_app _ _ _ _ _ ly1 ly2) (tk_2 k2 k6), fun i hi => (stC_o hi).trans ((fr2 i hi).trans (fr1 i hi)), by rw [hlen]; omega⟩
  | succ w ih2 =>
    intro d hd x9 e9
    subst e9
    have hmono := pfS_mono (E := E) (L := L) (k := kn) (a := a) (b := b) (d + 1) w
    rw [show d + 1 + w = c by omega] at hmono
    iterate 5 (refine zv_step (bX0_buildPair (3 * f + 5)) rfl rfl trivial ?_)
    refine zv_iff (show ¬ nI b - Int32.ofInt 1 ≤ nI (a + 1 + d) by rw [sub_1 (by omega)]; exact fun h => absurd ((nI_leI (by omega) (by omega)).mp h) (by omega)) ?_
    iterate 3 (refine zv_step (bX0_buildPair (3 * f + 5)) rfl rfl trivial ?_)
    refine zv_iale (bX0_buildPair (3 * f + 5)) rfl rfl (show vp_in (nI (a + 1 + d)) 20 by exact vp_in_nI (by omega) (by decide)) (show P 32 (nI (a + 1 + d)).toNatClampNeg = nI (E (a + 1 + d)) by rw [nI_clamp (by omega)]; exact (hE (a + 1 + d) (by omega)).1) ?_
    iterate 4 (refine zv_step (bX0_buildPair (3 * f + 5)) rfl rfl trivial ?_)
    refine zv_ifb (fun h29 => ?_) (fun h29 => ?_)
    · have q29 : E (a + 1 + d) = 18 + kn := (nI_eq (by have := (hE (a + 1 + d) (by omega)).2; omega) (by omega)).mp (show nI (E (a + 1 + d)) = nI (18 + kn) by rw [← nI_add]; exact h29)
      have e9 := pfS_at (L := L) (b := b) q29
      rw [e9] at hmono
      iterate 5 (refine zv_step (bX0_buildPair (3 * f + 5)) rfl rfl trivial ?_)
      refine zv_aald (bX0_buildPair (3 * f + 5)) rfl (Or.inr rfl) rfl (show vp_in (nI (a + 1 + d) + Int32.ofInt 1) 21 by rw [show nI (a + 1 + d) + Int32.ofInt 1 = nI (a + 1 + d + 1) from nI_1 _]; exact vp_in_nI (by omega) (by decide)) (show ([some 34, some 35, some 36, some 37, some 38, some 39, some 40, some 41, some 42, some 43, some 44, some 45, some 46, some 47, some 48, some 49, some 50, some 51, some 52, some 53, some 54] : List (Option Nat)).getD (nI (a + 1 + d) + Int32.ofInt 1).toNatClampNeg none = some (34 + (a + 1 + d + 1)) by rw [show nI (a + 1 + d) + Int32.ofInt 1 = nI (a + 1 + d + 1) from nI_1 _, nI_clamp (by omega)]; exact dLs (by omega)) ?_
      iterate 1 (refine zv_step (bX0_buildPair (3 * f + 5)) rfl rfl trivial ?_)
      refine zv_lale (bX0_buildPair (3 * f + 5)) rfl (wY (upd O 1 (nI (u))) P Y g (by omega)) (show vp_in (nI b) 21 by exact vp_in_nI (by omega) (by decide)) (show Y (34 + (a + 1 + d + 1)) (nI b).toNatClampNeg = lN (L (a + 1 + d + 1) (b)) by rw [nI_clamp (by omega)]; exact hY _ _ (by omega) (by omega)) ?_
      iterate 4 (refine zv_step (bX0_buildPair (3 * f + 5)) rfl rfl trivial ?_)
      refine zv_aald (bX0_buildPair (3 * f + 5)) rfl (Or.inr rfl) rfl (show vp_in (nI a) 21 by exact vp_in_nI (by omega) (by decide)) (show ([some 34, some 35, some 36, some 37, some 38, some 39, some 40, some 41, some 42, some 43, some 44, some 45, some 46, some 47, some 48, some 49, some 50, some 51, some 52, some 53, some 54] : List (Option Nat)).getD (nI a).toNatClampNeg none = some (34 + (a)) by rw [nI_clamp (by omega)]; exact dLs (by omega)) ?_
      iterate 1 (refine zv_step (bX0_buildPair (3 * f + 5)) rfl rfl trivial ?_)
      refine zv_lale (bX0_buildPair (3 * f + 5)) rfl (wY (upd O 1 (nI (u))) P Y g (by omega)) (show vp_in (nI (a + 1 + d)) 21 by exact vp_in_nI (by omega) (by decide)) (show Y (34 + (a)) (nI (a + 1 + d)).toNatClampNeg = lN (L (a) (a + 1 + d)) by rw [nI_clamp (by omega)]; exact hY _ _ (by omega) (by omega)) ?_
      iterate 7 (refine zv_step (bX0_buildPair (3 * f + 5)) rfl rfl trivial ?_)
      refine zv_ift ((lg_cmp_ge _ _).mpr (show lN (L a (a + 1 + d)) * lN (L (a + 1 + d + 1) b) ≤ lN (pfS E L kn a b c + r - pfS E L kn a b d) by rw [htm d (by omega), lN_leJ (by have := (tmW_le (L a (a + 1 + d)) (L (a + 1 + d + 1) b)).1; unfold cap at this; omega) (by omega)]; omega)) ?_
      iterate 6 (refine zv_step (bX0_buildPair (3 * f + 5)) rfl rfl trivial ?_)
      refine zv_locals (l := [(9, .int (nI (a + 1 + d) + Int32.ofInt 1)), (7, .long (lN (pfS E L kn a b c + r - pfS E L kn a b d) - lN (L a (a + 1 + d)) * lN (L (a + 1 + d + 1) b))), (12, .long (lN (L a (a + 1 + d)) * lN (L (a + 1 + d + 1) b))), (10, .long (lN (L (a + 1 + d + 1) b))), (0, .ref 31), (1, .ref 1), (2, .int (nI kn)), (3, .int (nI a)), (4, .int (nI b)), (5, .long kk)]) (l' := [(9, .int (nI (a + 1 + d) + Int32.ofInt 1)), (7, .long (lN (pfS E L kn a b c + r - pfS E L kn a b d) - lN (L a (a + 1 + d)) * lN (L (a + 1 + d + 1) b))), (0, .ref 31), (1, .ref 1), (2, .int (nI kn)), (3, .int (nI a)), (4, .int (nI b)), (5, .long kk)]) (by simp) ?_
      rw [htm d (by omega), lN_sub (by omega), show pfS E L kn a b c + r - pfS E L kn a b d - tmW (L a (a + 1 + d)) (L (a + 1 + d + 1) b) = pfS E L kn a b c + r - pfS E L kn a b (d + 1) by rw [e9]; omega]
      exact ih2 (d + 1) (by omega) (nI_1 _)
    · have q29 : ¬ E (a + 1 + d) = 18 + kn := fun e => h29 (show nI (E (a + 1 + d)) = nI 18 + nI kn by rw [nI_add, e])
      iterate 3 (refine zv_step (bX0_buildPair (3 * f + 5)) rfl rfl trivial ?_)
      have e9 : pfS E L kn a b (d + 1) = pfS E L kn a b d := by
        show _ + _ = _
        rw [if_neg q29]
        rfl
      rw [← e9]
      exact ih2 (d + 1) (by omega) (nI_1 _)
set_option maxHeartbeats 1000000 in
set_option maxRecDepth 20000 in
theorem hBPX1 {O : Nat → Int32} {Y : Nat → Nat → Int64} {g : Nat → zC} {P0 : Nat → Nat → Int32} {n : Nat} {E : Nat → Nat} (hE0 : eaR n P0 E) (hn : n ≤ 20) {G : Nat → Int32} (hG : gfR (O 12) G) {lt : Nat → Nat → Bool} (h0 : btR (O 10) (fun k => lt k 0)) (h1 : btR (O 11) (fun k => lt k 1)) {L : Nat → Nat → Nat} (hY : ∀ c d, c < d → d ≤ n → Y (34 + c) d = lN (L c d)) (hB : ∀ c d, c < d → d ≤ n → L c d ≤ 5 ^ (d - c - 1)) {f : Nat} (ih : ∀ (i j p : Nat) (T : List (Nat × Nat)) (x y : Int32) (z : Int64), x = nI i → y = nI j → z = lN p → i < j → j ≤ n → j - i ≤ f → RT E (mG E G lt L) L f i j p T → ∀ (u : Nat) (P : Nat → Nat → Int32) (st : List Nat), P 32 = P0 32 → u + T.length ≤ 120 → zK (3 * f + 4) zX0_buildSpan [.ref 31, .ref 1, .int x, .int y, .long z] (wX (upd O 1 (nI (u))) P Y g) (fun r w' => ∃ P' : Nat → Nat → Int32, r = some (.int (nI (u + T.length - 1))) ∧ w' = wX (upd O 1 (nI (u + T.length))) P' Y g ∧ lyC 1 T (P, u, st) (P', u + T.length, (u + T.length - 1) :: st) ∧ (∀ i, ¬ (1 < i ∧ i ≤ 13) → P' i = P i) ∧ 1 ≤ T.length)) {u : Nat} {P : Nat → Nat → Int32} {st : List Nat} (hP : P 32 = P0 32) {kn a b c r : Nat} {X1 Y1 : List (Nat × Nat)} (k2 : 2 ≤ kn) (k6 : kn ≤ 6) (hb : b ≤ n) (hf : b - a ≤ f + 1) (hc : a + 1 + c + 1 < b) (hEc : E (a + 1 + c) = 18 + kn) (hr : r < tmW (L a (a + 1 + c)) (L (a + 1 + c + 1) b)) (hX : RT E (mG E G lt L) L f a (a + 1 + c) (r / L (a + 1 + c + 1) b) X1) (hY1 : RT E (mG E G lt L) L f (a + 1 + c + 1) b (r % L (a + 1 + c + 1) b) Y1) (hu : u + (X1.length + Y1.length + 1) ≤ 120) {q : Nat} (hq : q = pfS E L kn a b c + r) (hq9 : q < 2 ^ 62) : zK (3 * f + 5) zX0_buildPair [.ref 31, .ref 1, .int (nI kn), .int (nI a), .int (nI b), .long (lN q)] (wX (upd O 1 (nI (u))) P Y g) (fun r w' => ∃ P' : Nat → Nat → Int32, r = some (.int (nI (u + (X1 ++ Y1 ++ [(kn, 0)]).length - 1))) ∧ w' = wX (upd O 1 (nI (u + (X1 ++ Y1 ++ [(kn, 0)]).length))) P' Y g ∧ lyC 1 (X1 ++ Y1 ++ [(kn, 0)]) (P, u, st) (P', u + (X1 ++ Y1 ++ [(kn, 0)]).length, (u + (X1 ++ Y1 ++ [(kn, 0)]).length - 1) :: st) ∧ (∀ i, ¬ (1 < i ∧ i ≤ 13) → P' i = P i) ∧ 1 ≤ (X1 ++ Y1 ++ [(kn, 0)]).length) := by
  refine zK_of qX0_buildPair (by decide +kernel) rfl ?_
  iterate 6 (refine zv_step (bX0_buildPair (3 * f + 5)) rfl rfl trivial ?_)
  subst hq
  exact hBPLX1 hE0 hn hG h0 h1 hY hB ih hP k2 k6 hb hf hc hEc hr hX hY1 hu hq9 _ c 0 (by omega) (nI_1 a)
set_option maxHeartbeats 1000000 in
set_option maxRecDepth 20000 in
theorem hBB0X1 {O : Nat → Int32} {Y : Nat → Nat → Int64} {g : Nat → zC} {P0 : Nat → Nat → Int32} {n : Nat} {E : Nat → Nat} (hE0 : eaR n P0 E) (hn : n ≤ 20) {G : Nat → Int32} (hG : gfR (O 12) G) {lt : Nat → Nat → Bool} (h0 : btR (O 10) (fun k => lt k 0)) (h1 : btR (O 11) (fun k => lt k 1)) {L : Nat → Nat → Nat} (hY : ∀ c d, c < d → d ≤ n → Y (34 + c) d = lN (L c d)) (hB : ∀ c d, c < d → d ≤ n → L c d ≤ 5 ^ (d - c - 1)) {f : Nat} {u : Nat} {P : Nat → Nat → Int32} {st : List Nat} (hP : P 32 = P0 32) {a b : Nat} (hab : a < b) (hb : b ≤ n) (hu : u + 1 ≤ 120) (kk : Int64) {x y : Int32} (ex : x = nI a) (ey : y = nI b) : zK (3 * f + 6) zX0_buildBare [.ref 31, .ref 1, .int (nI 0), .int x, .int y, .long kk] (wX (upd O 1 (nI (u))) P Y g) (fun r w' => ∃ P' : Nat → Nat → Int32, r = some (.int (nI (u + [(0, E a)].length - 1))) ∧ w' = wX (upd O 1 (nI (u + [(0, E a)].length))) P' Y g ∧ lyC 1 [(0, E a)] (P, u, st) (P', u + [(0, E a)].length, (u + [(0, E a)].length - 1) :: st) ∧ (∀ i, ¬ (1 < i ∧ i ≤ 13) → P' i = P i) ∧ 1 ≤ [(0, E a)].length) := by
  subst ex ey
  have hE := eaR_r hE0 hP
  refine zK_of qX0_buildBare (by decide +kernel) rfl ?_
  iterate 1 (refine zv_step (bX0_buildBare (3 * f + 6)) rfl rfl trivial ?_)
  refine zv_S1 (bX0_buildBare (3 * f + 6)) rfl rfl rfl rfl ⟨rfl, rfl, rfl⟩ ⟨by show 0 + 1 ≤ 3 * f + 6; omega, by show 8 + (1 + 11) + 64 * (0) ≤ 64 * (3 * f + 6); omega⟩ ⟨Nat.zero_le _, Nat.zero_le _⟩ (hX1_isPair _ _) ?_
  rintro _ _ ⟨rfl, ⟨hpr, rfl⟩ | ⟨hpr, rfl⟩⟩
  · skip
    iterate 1 (refine zv_step (bX0_buildBare (3 * f + 6)) rfl rfl trivial ?_)
    refine zv_iff (by decide) ?_
    exact absurd hpr (by decide)
  · skip
    iterate 1 (refine zv_step (bX0_buildBare (3 * f + 6)) rfl rfl trivial ?_)
    refine zv_ift (by decide) ?_
    iterate 2 (refine zv_step (bX0_buildBare (3 * f + 6)) rfl rfl trivial ?_)
    refine zv_iff (fun h => h rfl) ?_
    iterate 5 (refine zv_step (bX0_buildBare (3 * f + 6)) rfl rfl trivial ?_)
    refine zv_iale (bX0_buildBare (3 * f + 6)) rfl rfl (show vp_in (nI a) 20 by exact vp_in_nI (by omega) (by decide)) (show P 32 (nI a).toNatClampNeg = nI (E (a)) by rw [nI_clamp (by omega)]; exact (hE (a) (by omega)).1) ?_
    iterate 2 (refine zv_step (bX0_buildBare (3 * f + 6)) rfl rfl trivial ?_)
    refine zv_V4 (bX0_buildBare (3 * f + 6)) rfl rfl rfl rfl rfl rfl rfl ⟨rfl, rfl, rfl⟩ ⟨by show 2 + 1 ≤ 3 * f + 6; omega, by show 8 + (6 + 11) + 64 * (2) ≤ 64 * (3 * f + 6); omega⟩ ⟨Nat.zero_le _, Nat.zero_le _⟩ (pPut1 (upd O 1 (nI (u))) P Y g (show (nI (u)).toInt ≤ 120 by rw [nI_toInt (by omega)]; omega) (m := u) (by omega) rfl (nI 0) (nI (E a)) (m1) (m1)) ?_
    rintro r9 w9 hpo
    obtain ⟨rfl, sh, rfl⟩ := putX1 (by omega) hpo
    exact zv_iret (bX0_buildBare (3 * f + 6)) rfl (Or.inl rfl) (Nat.zero_le _) (Nat.zero_le _) ⟨_, rfl, rfl, tk_0 (by omega), fun i hi => stC_o hi, Nat.le_refl 1⟩
set_option maxHeartbeats 1000000 in
set_option maxRecDepth 20000 in
theorem hBB1X1 {O : Nat → Int32} {Y : Nat → Nat → Int64} {g : Nat → zC} {P0 : Nat → Nat → Int32} {n : Nat} {E : Nat → Nat} (hE0 : eaR n P0 E) (hn : n ≤ 20) {G : Nat → Int32} (hG : gfR (O 12) G) {lt : Nat → Nat → Bool} (h0 : btR (O 10) (fun k => lt k 0)) (h1 : btR (O 11) (fun k => lt k 1)) {L : Nat → Nat → Nat} (hY : ∀ c d, c < d → d ≤ n → Y (34 + c) d = lN (L c d)) (hB : ∀ c d, c < d → d ≤ n → L c d ≤ 5 ^ (d - c - 1)) {f : Nat} {u : Nat} {P : Nat → Nat → Int32} {st : List Nat} (hP : P 32 = P0 32) {a b : Nat} (hab : a < b) (hb : b ≤ n) (hnm : isNumB E a b = true) (hu : u + 1 ≤ 120) (kk : Int64) {x y : Int32} (ex : x = nI a) (ey : y = nI b) : zK (3 * f + 6) zX0_buildBare [.ref 31, .ref 1, .int (nI 1), .int x, .int y, .long kk] (wX (upd O 1 (nI (u))) P Y g) (fun r w' => ∃ P' : Nat → Nat → Int32, r = some (.int (nI (u + [(1, nvN E (b - a) a 0)].length - 1))) ∧ w' = wX (upd O 1 (nI (u + [(1, nvN E (b - a) a 0)].length))) P' Y g ∧ lyC 1 [(1, nvN E (b - a) a 0)] (P, u, st) (P', u + [(1, nvN E (b - a) a 0)].length, (u + [(1, nvN E (b - a) a 0)].length - 1) :: st) ∧ (∀ i, ¬ (1 < i ∧ i ≤ 13) → P' i = P i) ∧ 1 ≤ [(1, nvN E (b - a) a 0)].length) := by
  subst ex ey
  have hE := eaR_r hE0 hP
  refine zK_of qX0_buildBare (by decide +kernel) rfl ?_
  iterate 1 (refine zv_step (bX0_buildBare (3 * f + 6)) rfl rfl trivial ?_)
  refine zv_S1 (bX0_buildBare (3 * f + 6)) rfl rfl rfl rfl ⟨rfl, rfl, rfl⟩ ⟨by show 0 + 1 ≤ 3 * f + 6; omega, by show 8 + (1 + 11) + 64 * (0) ≤ 64 * (3 * f + 6); omega⟩ ⟨Nat.zero_le _, Nat.zero_le _⟩ (hX1_isPair _ _) ?_
  rintro _ _ ⟨rfl, ⟨hpr, rfl⟩ | ⟨hpr, rfl⟩⟩
  · skip
    iterate 1 (refine zv_step (bX0_buildBare (3 * f + 6)) rfl rfl trivial ?_)
    refine zv_iff (by decide) ?_
    exact absurd hpr (by decide)
  · skip
    iterate 1 (refine zv_step (bX0_buildBare (3 * f + 6)) rfl rfl trivial ?_)
    refine zv_ift (by decide) ?_
    iterate 2 (refine zv_step (bX0_buildBare (3 * f + 6)) rfl rfl trivial ?_)
    refine zv_ift (by decide) ?_
    iterate 3 (refine zv_step (bX0_buildBare (3 * f + 6)) rfl rfl trivial ?_)
    refine zv_iff (fun h => h rfl) ?_
    iterate 5 (refine zv_step (bX0_buildBare (3 * f + 6)) rfl rfl trivial ?_)
    refine zv_V2 (bX0_buildBare (3 * f + 6)) rfl rfl rfl rfl rfl rfl rfl ⟨rfl, rfl, rfl⟩ ⟨by show 0 + 1 ≤ 3 * f + 6; omega, by show 8 + (6 + 11) + 64 * (0) ≤ 64 * (3 * f + 6); omega⟩ ⟨Nat.zero_le _, Nat.zero_le _⟩ (hNum (upd O 1 (nI (u))) P Y g hab (by omega)) ?_
    rintro _ _ ⟨rfl, rfl⟩
    rw [nmW_num hE hab hb, if_pos hnm]
    iterate 2 (refine zv_step (bX0_buildBare (3 * f + 6)) rfl rfl trivial ?_)
    refine zv_V4 (bX0_buildBare (3 * f + 6)) rfl rfl rfl rfl rfl rfl rfl ⟨rfl, rfl, rfl⟩ ⟨by show 2 + 1 ≤ 3 * f + 6; omega, by show 8 + (6 + 11) + 64 * (2) ≤ 64 * (3 * f + 6); omega⟩ ⟨Nat.zero_le _, Nat.zero_le _⟩ (pPut1 (upd O 1 (nI (u))) P Y g (show (nI (u)).toInt ≤ 120 by rw [nI_toInt (by omega)]; omega) (m := u) (by omega) rfl (nI 1) (nI (nvN E (b - a) a 0)) (m1) (m1)) ?_
    rintro r9 w9 hpo
    obtain ⟨rfl, sh, rfl⟩ := putX1 (by omega) hpo
    exact zv_iret (bX0_buildBare (3 * f + 6)) rfl (Or.inl rfl) (Nat.zero_le _) (Nat.zero_le _) ⟨_, rfl, rfl, tk_0 (by omega), fun i hi => stC_o hi, Nat.le_refl 1⟩
set_option maxHeartbeats 1000000 in
set_option maxRecDepth 20000 in
theorem hBBUX1 {O : Nat → Int32} {Y : Nat → Nat → Int64} {g : Nat → zC} {P0 : Nat → Nat → Int32} {n : Nat} {E : Nat → Nat} (hE0 : eaR n P0 E) (hn : n ≤ 20) {G : Nat → Int32} (hG : gfR (O 12) G) {lt : Nat → Nat → Bool} (h0 : btR (O 10) (fun k => lt k 0)) (h1 : btR (O 11) (fun k => lt k 1)) {L : Nat → Nat → Nat} (hY : ∀ c d, c < d → d ≤ n → Y (34 + c) d = lN (L c d)) (hB : ∀ c d, c < d → d ≤ n → L c d ≤ 5 ^ (d - c - 1)) {f : Nat} (ih : ∀ (i j p : Nat) (T : List (Nat × Nat)) (x y : Int32) (z : Int64), x = nI i → y = nI j → z = lN p → i < j → j ≤ n → j - i ≤ f → RT E (mG E G lt L) L f i j p T → ∀ (u : Nat) (P : Nat → Nat → Int32) (st : List Nat), P 32 = P0 32 → u + T.length ≤ 120 → zK (3 * f + 4) zX0_buildSpan [.ref 31, .ref 1, .int x, .int y, .long z] (wX (upd O 1 (nI (u))) P Y g) (fun r w' => ∃ P' : Nat → Nat → Int32, r = some (.int (nI (u + T.length - 1))) ∧ w' = wX (upd O 1 (nI (u + T.length))) P' Y g ∧ lyC 1 T (P, u, st) (P', u + T.length, (u + T.length - 1) :: st) ∧ (∀ i, ¬ (1 < i ∧ i ≤ 13) → P' i = P i) ∧ 1 ≤ T.length)) {u : Nat} {P : Nat → Nat → Int32} {st : List Nat} (hP : P 32 = P0 32) {kn a b q : Nat} {X1 : List (Nat × Nat)} (k7 : 7 ≤ kn) (hk : kn < 10) (hb : b ≤ n) (hf : b - a ≤ f + 1) (hq : q < wi E G L kn a b) (hX : RT E (mG E G lt L) L f (pfN kn a) (ptN kn b) q X1) (hu : u + (X1.length + 1) ≤ 120) {x y : Int32} (ex : x = nI a) (ey : y = nI b) : zK (3 * f + 6) zX0_buildBare [.ref 31, .ref 1, .int (nI kn), .int x, .int y, .long (lN q)] (wX (upd O 1 (nI (u))) P Y g) (fun r w' => ∃ P' : Nat → Nat → Int32, r = some (.int (nI (u + (X1 ++ [(kn, E a)]).length - 1))) ∧ w' = wX (upd O 1 (nI (u + (X1 ++ [(kn, E a)]).length))) P' Y g ∧ lyC 1 (X1 ++ [(kn, E a)]) (P, u, st) (P', u + (X1 ++ [(kn, E a)]).length, (u + (X1 ++ [(kn, E a)]).length - 1) :: st) ∧ (∀ i, ¬ (1 < i ∧ i ≤ 13) → P' i = P i) ∧ 1 ≤ (X1 ++ [(kn, E a)]).length) := by
  subst ex ey
  have hE := eaR_r hE0 hP
  have hlen : (X1 ++ [(kn, E a)]).length = X1.length + 1 := by rw [List.length_append]; rfl
  obtain ⟨hab, w1, w2, w3, w4, w5⟩ := wi_un k7 hk hq
  refine zK_of qX0_buildBare (by decide +kernel) rfl ?_
  iterate 1 (refine zv_step (bX0_buildBare (3 * f + 6)) rfl rfl trivial ?_)
  refine zv_S1 (bX0_buildBare (3 * f + 6)) rfl rfl rfl rfl ⟨rfl, rfl, rfl⟩ ⟨by show 0 + 1 ≤ 3 * f + 6; omega, by show 8 + (1 + 11) + 64 * (0) ≤ 64 * (3 * f + 6); omega⟩ ⟨Nat.zero_le _, Nat.zero_le _⟩ (hX1_isPair _ _) ?_
  rintro _ _ ⟨rfl, ⟨hpr, rfl⟩ | ⟨hpr, rfl⟩⟩
  · rw [nI_toInt (by omega)] at hpr
    iterate 1 (refine zv_step (bX0_buildBare (3 * f + 6)) rfl rfl trivial ?_)
    refine zv_iff (by decide) ?_
    omega
  · skip
    iterate 1 (refine zv_step (bX0_buildBare (3 * f + 6)) rfl rfl trivial ?_)
    refine zv_ift (by decide) ?_
    iterate 2 (refine zv_step (bX0_buildBare (3 * f + 6)) rfl rfl trivial ?_)
    refine zv_ift (fun h => absurd ((nI_eq (b := 0) (by omega) (by decide)).mp h) (by omega)) ?_
    iterate 3 (refine zv_step (bX0_buildBare (3 * f + 6)) rfl rfl trivial ?_)
    refine zv_ift (fun h => absurd ((nI_eq (b := 1) (by omega) (by decide)).mp h) (by omega)) ?_
    iterate 4 (refine zv_step (bX0_buildBare (3 * f + 6)) rfl rfl trivial ?_)
    refine zv_S2 (bX0_buildBare (3 * f + 6)) rfl rfl rfl rfl ⟨rfl, rfl, rfl⟩ ⟨by show 0 + 1 ≤ 3 * f + 6; omega, by show 8 + (2 + 11) + 64 * (0) ≤ 64 * (3 * f + 6); omega⟩ ⟨Nat.zero_le _, Nat.zero_le _⟩ (hFrom _ _ _) ?_
    rintro _ _ ⟨rfl, rfl⟩
    iterate 2 (refine zv_step (bX0_buildBare (3 * f + 6)) rfl rfl trivial ?_)
    refine zv_S2 (bX0_buildBare (3 * f + 6)) rfl rfl rfl rfl ⟨rfl, rfl, rfl⟩ ⟨by show 0 + 1 ≤ 3 * f + 6; omega, by show 8 + (2 + 11) + 64 * (0) ≤ 64 * (3 * f + 6); omega⟩ ⟨Nat.zero_le _, Nat.zero_le _⟩ (hTo _ _ _) ?_
    rintro _ _ ⟨rfl, rfl⟩
    iterate 1 (refine zv_step (bX0_buildBare (3 * f + 6)) rfl rfl trivial ?_)
    refine zv_V4 (bX0_buildBare (3 * f + 6)) rfl rfl rfl rfl rfl rfl rfl ⟨rfl, rfl, rfl⟩ ⟨by show 3 * f + 4 + 1 ≤ 3 * f + 6; omega, by show 8 + (14 + 11) + 64 * (3 * f + 4) ≤ 64 * (3 * f + 6); omega⟩ ⟨Nat.zero_le _, Nat.zero_le _⟩ (ih (pfN kn a) (ptN kn b) q X1 _ _ _ (pf_N hk) (pt_N hk (by omega)) rfl w3 (by omega) (by omega) hX u P st hP (by omega)) ?_
    rintro _ _ ⟨P1, rfl, rfl, ly1, fr1, ln1⟩
    have hP1 : P1 32 = P0 32 := (fr1 32 (by omega)).trans hP
    have hE1 := eaR_r hE0 hP1
    iterate 6 (refine zv_step (bX0_buildBare (3 * f + 6)) rfl rfl trivial ?_)
    refine zv_ifb (fun h82 => ?_) (fun h82 => ?_)
    · have q82 : ¬ kn = 9 := fun e => h82 (by rw [e]; rfl)
      iterate 3 (refine zv_step (bX0_buildBare (3 * f + 6)) rfl rfl trivial ?_)
      refine zv_V4 (bX0_buildBare (3 * f + 6)) rfl rfl rfl rfl rfl rfl rfl ⟨rfl, rfl, rfl⟩ ⟨by show 2 + 1 ≤ 3 * f + 6; omega, by show 8 + (6 + 11) + 64 * (2) ≤ 64 * (3 * f + 6); omega⟩ ⟨Nat.zero_le _, Nat.zero_le _⟩ (pPut1 (upd O 1 (nI (u + X1.length))) P1 Y g (show (nI (u + X1.length)).toInt ≤ 120 by rw [nI_toInt (by omega)]; omega) (m := u + X1.length) (by omega) rfl (nI kn) (m1) (nI (u + X1.length - 1)) (m1)) ?_
      rintro r9 w9 hpo
      obtain ⟨rfl, sh, rfl⟩ := putX1 (by omega) hpo
      have hl9 : lyC 1 [(kn, E a)] (P1, u + X1.length, (u + X1.length - 1) :: st) (stC 1 P1 (u + X1.length) (nI kn) (m1) (nI (u + X1.length - 1)) m1 sh, u + X1.length + 1, (u + X1.length) :: st) := by
        have h := tk_1 (b := 1) (v := E a) (u := u + X1.length) (x := u + X1.length - 1) (P := P1) (st := st) (sh := sh) k7
        rw [if_neg q82] at h
        exact h
      have hly := lyC_app _ _ _ _ _ ly1 hl9
      refine zv_iret (bX0_buildBare (3 * f + 6)) rfl (Or.inl rfl) (Nat.zero_le _) (Nat.zero_le _) ⟨stC 1 P1 (u + X1.length) (nI kn) (m1) (nI (u + X1.length - 1)) m1 sh, ?_, ?_, ?_, fun i hi => (stC_o hi).trans (fr1 i hi), ?_⟩
      · rw [hlen]
        rfl
      · rw [hlen]
        rfl
      · rw [hlen]
        exact hly
      · rw [hlen]
        omega
    · have q82 : kn = 9 := (nI_eq (b := 9) (by omega) (by decide)).mp (Decidable.not_not.mp h82)
      iterate 3 (refine zv_step (bX0_buildBare (3 * f + 6)) rfl rfl trivial ?_)
      refine zv_iale (bX0_buildBare (3 * f + 6)) rfl rfl (show vp_in (nI a) 20 by exact vp_in_nI (by omega) (by decide)) (show P1 32 (nI a).toNatClampNeg = nI (E (a)) by rw [nI_clamp (by omega)]; exact (hE1 (a) (by omega)).1) ?_
      iterate 3 (refine zv_step (bX0_buildBare (3 * f + 6)) rfl rfl trivial ?_)
      refine zv_V4 (bX0_buildBare (3 * f + 6)) rfl rfl rfl rfl rfl rfl rfl ⟨rfl, rfl, rfl⟩ ⟨by show 2 + 1 ≤ 3 * f + 6; omega, by show 8 + (6 + 11) + 64 * (2) ≤ 64 * (3 * f + 6); omega⟩ ⟨Nat.zero_le _, Nat.zero_le _⟩ (pPut1 (upd O 1 (nI (u + X1.length))) P1 Y g (show (nI (u + X1.length)).toInt ≤ 120 by rw [nI_toInt (by omega)]; omega) (m := u + X1.length) (by omega) rfl (nI kn) (nI (E a)) (nI (u + X1.length - 1)) (m1)) ?_
      rintro r9 w9 hpo
      obtain ⟨rfl, sh, rfl⟩ := putX1 (by omega) hpo
      have hl9 : lyC 1 [(kn, E a)] (P1, u + X1.length, (u + X1.length - 1) :: st) (stC 1 P1 (u + X1.length) (nI kn) (nI (E a)) (nI (u + X1.length - 1)) m1 sh, u + X1.length + 1, (u + X1.length) :: st) := by
        have h := tk_1 (b := 1) (v := E a) (u := u + X1.length) (x := u + X1.length - 1) (P := P1) (st := st) (sh := sh) k7
        rw [if_pos q82] at h
        exact h
      have hly := lyC_app _ _ _ _ _ ly1 hl9
      refine zv_iret (bX0_buildBare (3 * f + 6)) rfl (Or.inl rfl) (Nat.zero_le _) (Nat.zero_le _) ⟨stC 1 P1 (u + X1.length) (nI kn) (nI (E a)) (nI (u + X1.length - 1)) m1 sh, ?_, ?_, ?_, fun i hi => (stC_o hi).trans (fr1 i hi), ?_⟩
      · rw [hlen]
        rfl
      · rw [hlen]
        rfl
      · rw [hlen]
        exact hly
      · rw [hlen]
        omega
set_option maxHeartbeats 1000000 in
set_option maxRecDepth 20000 in
theorem hBBPX1 {O : Nat → Int32} {Y : Nat → Nat → Int64} {g : Nat → zC} {P0 : Nat → Nat → Int32} {n : Nat} {E : Nat → Nat} (hE0 : eaR n P0 E) (hn : n ≤ 20) {G : Nat → Int32} (hG : gfR (O 12) G) {lt : Nat → Nat → Bool} (h0 : btR (O 10) (fun k => lt k 0)) (h1 : btR (O 11) (fun k => lt k 1)) {L : Nat → Nat → Nat} (hY : ∀ c d, c < d → d ≤ n → Y (34 + c) d = lN (L c d)) (hB : ∀ c d, c < d → d ≤ n → L c d ≤ 5 ^ (d - c - 1)) {f : Nat} (ih : ∀ (i j p : Nat) (T : List (Nat × Nat)) (x y : Int32) (z : Int64), x = nI i → y = nI j → z = lN p → i < j → j ≤ n → j - i ≤ f → RT E (mG E G lt L) L f i j p T → ∀ (u : Nat) (P : Nat → Nat → Int32) (st : List Nat), P 32 = P0 32 → u + T.length ≤ 120 → zK (3 * f + 4) zX0_buildSpan [.ref 31, .ref 1, .int x, .int y, .long z] (wX (upd O 1 (nI (u))) P Y g) (fun r w' => ∃ P' : Nat → Nat → Int32, r = some (.int (nI (u + T.length - 1))) ∧ w' = wX (upd O 1 (nI (u + T.length))) P' Y g ∧ lyC 1 T (P, u, st) (P', u + T.length, (u + T.length - 1) :: st) ∧ (∀ i, ¬ (1 < i ∧ i ≤ 13) → P' i = P i) ∧ 1 ≤ T.length)) {u : Nat} {P : Nat → Nat → Int32} {st : List Nat} (hP : P 32 = P0 32) {kn a b c r : Nat} {X1 Y1 : List (Nat × Nat)} (k2 : 2 ≤ kn) (k6 : kn ≤ 6) (hb : b ≤ n) (hf : b - a ≤ f + 1) (hc : a + 1 + c + 1 < b) (hEc : E (a + 1 + c) = 18 + kn) (hr : r < tmW (L a (a + 1 + c)) (L (a + 1 + c + 1) b)) (hX : RT E (mG E G lt L) L f a (a + 1 + c) (r / L (a + 1 + c + 1) b) X1) (hY1 : RT E (mG E G lt L) L f (a + 1 + c + 1) b (r % L (a + 1 + c + 1) b) Y1) (hu : u + (X1.length + Y1.length + 1) ≤ 120) {q : Nat} (hq : q = pfS E L kn a b c + r) (hq9 : q < 2 ^ 62) {x y : Int32} (ex : x = nI a) (ey : y = nI b) : zK (3 * f + 6) zX0_buildBare [.ref 31, .ref 1, .int (nI kn), .int x, .int y, .long (lN q)] (wX (upd O 1 (nI (u))) P Y g) (fun r w' => ∃ P' : Nat → Nat → Int32, r = some (.int (nI (u + (X1 ++ Y1 ++ [(kn, 0)]).length - 1))) ∧ w' = wX (upd O 1 (nI (u + (X1 ++ Y1 ++ [(kn, 0)]).length))) P' Y g ∧ lyC 1 (X1 ++ Y1 ++ [(kn, 0)]) (P, u, st) (P', u + (X1 ++ Y1 ++ [(kn, 0)]).length, (u + (X1 ++ Y1 ++ [(kn, 0)]).length - 1) :: st) ∧ (∀ i, ¬ (1 < i ∧ i ≤ 13) → P' i = P i) ∧ 1 ≤ (X1 ++ Y1 ++ [(kn, 0)]).length) := by
  subst ex ey
  refine zK_of qX0_buildBare (by decide +kernel) rfl ?_
  iterate 1 (refine zv_step (bX0_buildBare (3 * f + 6)) rfl rfl trivial ?_)
  refine zv_S1 (bX0_buildBare (3 * f + 6)) rfl rfl rfl rfl ⟨rfl, rfl, rfl⟩ ⟨by show 0 + 1 ≤ 3 * f + 6; omega, by show 8 + (1 + 11) + 64 * (0) ≤ 64 * (3 * f + 6); omega⟩ ⟨Nat.zero_le _, Nat.zero_le _⟩ (hX1_isPair _ _) ?_
  rintro _ _ ⟨rfl, ⟨hpr, rfl⟩ | ⟨hpr, rfl⟩⟩
  · skip
    iterate 1 (refine zv_step (bX0_buildBare (3 * f + 6)) rfl rfl trivial ?_)
    refine zv_iff (by decide) ?_
    iterate 6 (refine zv_step (bX0_buildBare (3 * f + 6)) rfl rfl trivial ?_)
    refine zv_V5 (bX0_buildBare (3 * f + 6)) rfl rfl rfl rfl rfl rfl rfl ⟨rfl, rfl, rfl⟩ ⟨by show 3 * f + 5 + 1 ≤ 3 * f + 6; omega, by show 8 + (16 + 11) + 64 * (3 * f + 5) ≤ 64 * (3 * f + 6); omega⟩ ⟨Nat.zero_le _, Nat.zero_le _⟩ (hBPX1 hE0 hn hG h0 h1 hY hB ih (st := st) hP k2 k6 hb hf hc hEc hr hX hY1 hu hq hq9) ?_
    rintro _ _ ⟨P1, rfl, rfl, ly1, fr1, ln1⟩
    exact zv_iret (bX0_buildBare (3 * f + 6)) rfl (Or.inl rfl) (Nat.zero_le _) (Nat.zero_le _) ⟨P1, rfl, rfl, ly1, fr1, ln1⟩
  · skip
    iterate 1 (refine zv_step (bX0_buildBare (3 * f + 6)) rfl rfl trivial ?_)
    refine zv_ift (by decide) ?_
    exact absurd (show 2 ≤ (nI kn).toInt ∧ (nI kn).toInt ≤ 6 by rw [nI_toInt (by omega)]; omega) hpr
theorem hBBX1 {O : Nat → Int32} {Y : Nat → Nat → Int64} {g : Nat → zC} {P0 : Nat → Nat → Int32} {n : Nat} {E : Nat → Nat} (hE0 : eaR n P0 E) (hn : n ≤ 20) {G : Nat → Int32} (hG : gfR (O 12) G) {lt : Nat → Nat → Bool} (h0 : btR (O 10) (fun k => lt k 0)) (h1 : btR (O 11) (fun k => lt k 1)) {L : Nat → Nat → Nat} (hY : ∀ c d, c < d → d ≤ n → Y (34 + c) d = lN (L c d)) (hB : ∀ c d, c < d → d ≤ n → L c d ≤ 5 ^ (d - c - 1)) {f : Nat} (ih : ∀ (i j p : Nat) (T : List (Nat × Nat)) (x y : Int32) (z : Int64), x = nI i → y = nI j → z = lN p → i < j → j ≤ n → j - i ≤ f → RT E (mG E G lt L) L f i j p T → ∀ (u : Nat) (P : Nat → Nat → Int32) (st : List Nat), P 32 = P0 32 → u + T.length ≤ 120 → zK (3 * f + 4) zX0_buildSpan [.ref 31, .ref 1, .int x, .int y, .long z] (wX (upd O 1 (nI (u))) P Y g) (fun r w' => ∃ P' : Nat → Nat → Int32, r = some (.int (nI (u + T.length - 1))) ∧ w' = wX (upd O 1 (nI (u + T.length))) P' Y g ∧ lyC 1 T (P, u, st) (P', u + T.length, (u + T.length - 1) :: st) ∧ (∀ i, ¬ (1 < i ∧ i ≤ 13) → P' i = P i) ∧ 1 ≤ T.length)) {u : Nat} {P : Nat → Nat → Int32} {st : List Nat} (hP : P 32 = P0 32) {kn a b q : Nat} {T : List (Nat × Nat)} (hk : kn < 10) (hab : a < b) (hb : b ≤ n) (hf : b - a ≤ f + 1) (hq : q < wi E G L kn a b) (hq9 : q < 2 ^ 62) (hT : RK E L (RT E (mG E G lt L) L f) kn a b q T) (hu : u + T.length ≤ 120) {x y : Int32} (ex : x = nI a) (ey : y = nI b) : zK (3 * f + 6) zX0_buildBare [.ref 31, .ref 1, .int (nI kn), .int x, .int y, .long (lN q)] (wX (upd O 1 (nI (u))) P Y g) (fun r w' => ∃ P' : Nat → Nat → Int32, r = some (.int (nI (u + T.length - 1))) ∧ w' = wX (upd O 1 (nI (u + T.length))) P' Y g ∧ lyC 1 T (P, u, st) (P', u + T.length, (u + T.length - 1) :: st) ∧ (∀ i, ¬ (1 < i ∧ i ≤ 13) → P' i = P i) ∧ 1 ≤ T.length) := by
  rcases hT with ⟨a1, a2⟩ | ⟨a1, X1, a2, a3⟩ | ⟨a1, a2, c, r, X1, Y1, b1, b2, b3, b4, b5, b6, b7⟩
  · rcases (show kn = 0 ∨ kn = 1 by omega) with e | e
    · subst e
      subst a2
      exact hBB0X1 hE0 hn hG h0 h1 hY hB hP hab hb hu _ ex ey
    · subst e
      subst a2
      refine hBB1X1 hE0 hn hG h0 h1 hY hB hP hab hb ?_ hu _ ex ey
      rw [wi_1 hab] at hq
      split at hq
      · assumption
      · omega
  · subst a2
    exact hBBUX1 hE0 hn hG h0 h1 hY hB ih hP a1 hk hb hf hq a3 (by rw [List.length_append] at hu; exact hu) ex ey
  · subst b5
    exact hBBPX1 hE0 hn hG h0 h1 hY hB ih hP a1 a2 hb hf b1 b2 b4 b6 b7 (by rw [List.length_append, List.length_append] at hu; exact hu) b3 hq9 ex ey
set_option maxHeartbeats 1000000 in
set_option maxRecDepth 20000 in
theorem hBSLX1 {O : Nat → Int32} {Y : Nat → Nat → Int64} {g : Nat → zC} {P0 : Nat → Nat → Int32} {n : Nat} {E : Nat → Nat} (hE0 : eaR n P0 E) (hn : n ≤ 20) {G : Nat → Int32} (hG : gfR (O 12) G) {lt : Nat → Nat → Bool} (h0 : btR (O 10) (fun k => lt k 0)) (h1 : btR (O 11) (fun k => lt k 1)) {L : Nat → Nat → Nat} (hY : ∀ c d, c < d → d ≤ n → Y (34 + c) d = lN (L c d)) (hB : ∀ c d, c < d → d ≤ n → L c d ≤ 5 ^ (d - c - 1)) {f : Nat} (ih : ∀ (i j p : Nat) (T : List (Nat × Nat)) (x y : Int32) (z : Int64), x = nI i → y = nI j → z = lN p → i < j → j ≤ n → j - i ≤ f → RT E (mG E G lt L) L f i j p T → ∀ (u : Nat) (P : Nat → Nat → Int32) (st : List Nat), P 32 = P0 32 → u + T.length ≤ 120 → zK (3 * f + 4) zX0_buildSpan [.ref 31, .ref 1, .int x, .int y, .long z] (wX (upd O 1 (nI (u))) P Y g) (fun r w' => ∃ P' : Nat → Nat → Int32, r = some (.int (nI (u + T.length - 1))) ∧ w' = wX (upd O 1 (nI (u + T.length))) P' Y g ∧ lyC 1 T (P, u, st) (P', u + T.length, (u + T.length - 1) :: st) ∧ (∀ i, ¬ (1 < i ∧ i ≤ 13) → P' i = P i) ∧ 1 ≤ T.length)) {u : Nat} {P : Nat → Nat → Int32} {st : List Nat} (hP : P 32 = P0 32) {i j p c0 q0 : Nat} {T : List (Nat × Nat)} (hij : i < j) (hj : j ≤ n) (hf : j - i ≤ f + 1) (hc20 : c0 < 20) (hp : p = sW (mG E G lt L i j) c0 + q0) (hq0 : q0 < mG E G lt L i j c0) (hR : RK E L (RT E (mG E G lt L) L f) (c0 / 2) (i + c0 % 2) (j - c0 % 2) q0 T) (hu : u + T.length ≤ 120) (hp9 : p < 2 ^ 62) (h62 : ∀ c, c < 20 → mG E G lt L i j c < 2 ^ 62) (kk : Int64) {e : Int32} (he : (e = 0 → ∀ w, mG E G lt L i j (2 * w + 1) = 0) ∧ (¬ e = 0 → 2 < j - i ∧ brE E i j)) {n0 : Nat} : ∀ (v w : Nat), w + v = 10 → 2 * w ≤ c0 → ∀ {x9 : Int32}, x9 = nI w → zV (zMo (3 * (f + 1) + 4) zX0_buildSpan) false n0 0 0 22 [(9, .int (x9)), (8, .int e), (6, .long (lN (p - sW (mG E G lt L i j) (2 * w)))), (0, .ref 31), (1, .ref 1), (2, .int (nI i)), (3, .int (nI j)), (4, .long kk)] [] (wX (upd O 1 (nI (u))) P Y g) (fun r w' => ∃ P' : Nat → Nat → Int32, r = some (.int (nI (u + T.length - 1))) ∧ w' = wX (upd O 1 (nI (u + T.length))) P' Y g ∧ lyC 1 T (P, u, st) (P', u + T.length, (u + T.length - 1) :: st) ∧ (∀ i, ¬ (1 < i ∧ i ≤ 13) → P' i = P i) ∧ 1 ≤ T.length) := by
  have hE := eaR_r hE0 hP
  intro v
  induction v with
  | zero =>
    intro w hw hwc x9 e9
    omega
  | succ v ih2 =>
    intro w hw hwc x9 e9
    subst e9
    have hsp := sW_mono (mG E G lt L i j) (2 * w) (c0 - 2 * w)
    rw [show 2 * w + (c0 - 2 * w) = c0 by omega] at hsp
    iterate 3 (refine zv_step (bX0_buildSpan (3 * (f + 1) + 4)) rfl rfl trivial ?_)
    refine zv_iff (show ¬ c8 9 < nI w from show ¬ nI 9 < nI w from nI_nlt (by omega) (by omega)) ?_
    iterate 9 (refine zv_step (bX0_buildSpan (3 * (f + 1) + 4)) rfl rfl trivial ?_)
    refine zv_V3 (bX0_buildSpan (3 * (f + 1) + 4)) rfl rfl rfl rfl rfl rfl rfl ⟨rfl, rfl, rfl⟩ ⟨by show 2 + 1 ≤ 3 * (f + 1) + 4; omega, by show 8 + (8 + 11) + 64 * (2) ≤ 64 * (3 * (f + 1) + 4); omega⟩ ⟨Nat.zero_le _, Nat.zero_le _⟩ (hBareX (upd O 1 (nI (u))) P Y g hE hG hij hj hn (fun c d _ h2 h3 _ => hY c d h2 (by omega)) (fun c d _ h2 h3 _ => hB c d h2 (by omega)) (btR_kd (btR_k h0 (show w < 10 by omega))) rfl rfl) ?_
    rintro _ _ ⟨rfl, rfl⟩
    rw [bS_one (show w < 10 by omega), ← mG_e (i := i) (j := j)]
    iterate 5 (refine zv_step (bX0_buildSpan (3 * (f + 1) + 4)) rfl rfl trivial ?_)
    refine zv_ifb (fun h51 => ?_) (fun h51 => ?_)
    · have q51 : mG E G lt L i j (2 * w) ≤ p - sW (mG E G lt L i j) (2 * w) := (lN_leJ (h62 _ (by omega)) (by omega)).mp ((lg_cmp_ge _ _).mp h51)
      have hlt : 2 * w < c0 := by
        rcases Nat.lt_or_ge (2 * w) c0 with e | e
        · exact e
        · have : 2 * w = c0 := by omega
          subst this
          omega
      have s1 : sW (mG E G lt L i j) (2 * w + 1) = sW (mG E G lt L i j) (2 * w) + mG E G lt L i j (2 * w) := rfl
      have s2 : sW (mG E G lt L i j) (2 * (w + 1)) = sW (mG E G lt L i j) (2 * w) + mG E G lt L i j (2 * w) + mG E G lt L i j (2 * w + 1) := rfl
      refine zv_locals (l := [(10, .long (lN (mG E G lt L i j (2 * w)))), (9, .int (nI w)), (8, .int e), (6, .long (lN (p - sW (mG E G lt L i j) (2 * w)))), (0, .ref 31), (1, .ref 1), (2, .int (nI i)), (3, .int (nI j)), (4, .long kk)]) (l' := [(10, .long (lN (mG E G lt L i j (2 * w)))), (9, .int (nI w)), (8, .int e), (6, .long (lN (p - sW (mG E G lt L i j) (2 * w)))), (0, .ref 31), (1, .ref 1), (2, .int (nI i)), (3, .int (nI j)), (4, .long kk)]) (fun q h => h) ?_
      iterate 4 (refine zv_step (bX0_buildSpan (3 * (f + 1) + 4)) rfl rfl trivial ?_)
      refine zv_locals (l := [(6, .long (lN (p - sW (mG E G lt L i j) (2 * w)) - lN (mG E G lt L i j (2 * w)))), (10, .long (lN (mG E G lt L i j (2 * w)))), (9, .int (nI w)), (8, .int e), (0, .ref 31), (1, .ref 1), (2, .int (nI i)), (3, .int (nI j)), (4, .long kk)]) (l' := [(6, .long (lN (p - sW (mG E G lt L i j) (2 * w)) - lN (mG E G lt L i j (2 * w)))), (10, .long (lN (mG E G lt L i j (2 * w)))), (9, .int (nI w)), (8, .int e), (0, .ref 31), (1, .ref 1), (2, .int (nI i)), (3, .int (nI j)), (4, .long kk)]) (fun q h => h) ?_
      rw [lN_sub q51]
      iterate 2 (refine zv_step (bX0_buildSpan (3 * (f + 1) + 4)) rfl rfl trivial ?_)
      refine zv_ifb (fun h75 => ?_) (fun h75 => ?_)
      · have q75 := he.1 h75
        iterate 1 (refine zv_step (bX0_buildSpan (3 * (f + 1) + 4)) rfl rfl trivial ?_)
        rw [show Int64.ofNat ((0 : Fin 2) : Nat) = lN (mG E G lt L i j (2 * w + 1)) by rw [q75 w]; rfl]
        iterate 5 (refine zv_step (bX0_buildSpan (3 * (f + 1) + 4)) rfl rfl trivial ?_)
        refine zv_ifb (fun h108 => ?_) (fun h108 => ?_)
        · have q108 : mG E G lt L i j (2 * w + 1) ≤ p - sW (mG E G lt L i j) (2 * w) - mG E G lt L i j (2 * w) := (lN_leJ (h62 _ (by omega)) (by omega)).mp ((lg_cmp_ge _ _).mp h108)
          have hlt2 : 2 * w + 1 < c0 := by
            rcases Nat.lt_or_ge (2 * w + 1) c0 with e | e
            · exact e
            · have : 2 * w + 1 = c0 := by omega
              subst this
              omega
          iterate 6 (refine zv_step (bX0_buildSpan (3 * (f + 1) + 4)) rfl rfl trivial ?_)
          refine zv_locals (l := [(9, .int (nI w + Int32.ofInt 1)), (6, .long (lN (p - sW (mG E G lt L i j) (2 * w) - mG E G lt L i j (2 * w)) - lN (mG E G lt L i j (2 * w + 1)))), (12, .long (lN (mG E G lt L i j (2 * w + 1)))), (10, .long (lN (mG E G lt L i j (2 * w)))), (8, .int e), (0, .ref 31), (1, .ref 1), (2, .int (nI i)), (3, .int (nI j)), (4, .long kk)]) (l' := [(9, .int (nI w + Int32.ofInt 1)), (8, .int e), (6, .long (lN (p - sW (mG E G lt L i j) (2 * w) - mG E G lt L i j (2 * w)) - lN (mG E G lt L i j (2 * w + 1)))), (0, .ref 31), (1, .ref 1), (2, .int (nI i)), (3, .int (nI j)), (4, .long kk)]) (by simp) ?_
          rw [lN_sub q108, show p - sW (mG E G lt L i j) (2 * w) - mG E G lt L i j (2 * w) - mG E G lt L i j (2 * w + 1) = p - sW (mG E G lt L i j) (2 * (w + 1)) by omega]
          exact ih2 (w + 1) (by omega) (by omega) (nI_1 w)
        · have q108 : ¬ mG E G lt L i j (2 * w + 1) ≤ p - sW (mG E G lt L i j) (2 * w) - mG E G lt L i j (2 * w) := fun q => h108 ((lg_cmp_ge _ _).mpr ((lN_leJ (h62 _ (by omega)) (by omega)).mpr q))
          have hc0 : 2 * w + 1 = c0 := by
            rcases Nat.lt_or_ge (2 * w + 1) c0 with e | e
            · have := sW_mono (mG E G lt L i j) (2 * w + 1 + 1) (c0 - (2 * w + 1 + 1))
              rw [show 2 * w + 1 + 1 + (c0 - (2 * w + 1 + 1)) = c0 by omega] at this
              have s3 : sW (mG E G lt L i j) (2 * w + 1 + 1) = sW (mG E G lt L i j) (2 * w + 1) + mG E G lt L i j (2 * w + 1) := rfl
              omega
            · omega
          subst hc0
          have eq0 : p - sW (mG E G lt L i j) (2 * w) - mG E G lt L i j (2 * w) = q0 := by omega
          rw [show (2 * w + 1) / 2 = w by omega, show (2 * w + 1) % 2 = 1 by omega] at hR
          have hw0 := (mG_pos hq0).1
          rw [show (2 * w + 1) / 2 = w by omega, show (2 * w + 1) % 2 = 1 by omega] at hw0
          have hab1 : i + 1 < j - 1 := by
            rcases Nat.lt_or_ge (i + 1) (j - 1) with e | e
            · exact e
            · rw [wi_n e] at hw0
              omega
          refine zv_locals (l := [(12, .long (lN (mG E G lt L i j (2 * w + 1)))), (6, .long (lN (p - sW (mG E G lt L i j) (2 * w) - mG E G lt L i j (2 * w)))), (10, .long (lN (mG E G lt L i j (2 * w)))), (9, .int (nI w)), (8, .int e), (0, .ref 31), (1, .ref 1), (2, .int (nI i)), (3, .int (nI j)), (4, .long kk)]) (l' := [(12, .long (lN (mG E G lt L i j (2 * w + 1)))), (6, .long (lN (p - sW (mG E G lt L i j) (2 * w) - mG E G lt L i j (2 * w)))), (10, .long (lN (mG E G lt L i j (2 * w)))), (9, .int (nI w)), (8, .int e), (0, .ref 31), (1, .ref 1), (2, .int (nI i)), (3, .int (nI j)), (4, .long kk)]) (fun q h => h) ?_
          rw [eq0]
          iterate 10 (refine zv_step (bX0_buildSpan (3 * (f + 1) + 4)) rfl rfl trivial ?_)
          refine zv_V5 (bX0_buildSpan (3 * (f + 1) + 4)) rfl rfl rfl rfl rfl rfl rfl ⟨rfl, rfl, rfl⟩ ⟨by show 3 * f + 6 + 1 ≤ 3 * (f + 1) + 4; omega, by show 8 + (8 + 11) + 64 * (3 * f + 6) ≤ 64 * (3 * (f + 1) + 4); omega⟩ ⟨Nat.zero_le _, Nat.zero_le _⟩ (hBBX1 hE0 hn hG h0 h1 hY hB ih (st := st) hP (a := i + 1) (b := j - 1) (show w < 10 by omega) hab1 (by omega) (by omega) hw0 (by omega) hR hu (nI_1 i) (sub_1 (by omega))) ?_
          rintro _ _ ⟨P1, rfl, rfl, ly1, fr1, ln1⟩
          exact zv_iret (bX0_buildSpan (3 * (f + 1) + 4)) rfl (Or.inl rfl) (Nat.zero_le _) (Nat.zero_le _) ⟨P1, rfl, rfl, ly1, fr1, ln1⟩
      · have q75 := he.2 h75
        iterate 13 (refine zv_step (bX0_buildSpan (3 * (f + 1) + 4)) rfl rfl trivial ?_)
        refine zv_V3 (bX0_buildSpan (3 * (f + 1) + 4)) rfl rfl rfl rfl rfl rfl rfl ⟨rfl, rfl, rfl⟩ ⟨by show 2 + 1 ≤ 3 * (f + 1) + 4; omega, by show 8 + (8 + 11) + 64 * (2) ≤ 64 * (3 * (f + 1) + 4); omega⟩ ⟨Nat.zero_le _, Nat.zero_le _⟩ (hBareX (upd O 1 (nI (u))) P Y g hE hG (a := i + 1) (b := j - 1) (by omega) (by omega) hn (fun c d _ h2 h3 _ => hY c d h2 (by omega)) (fun c d _ h2 h3 _ => hB c d h2 (by omega)) (btR_kd (btR_k h1 (show w < 10 by omega))) (nI_1 i) (sub_1 (by omega))) ?_
        rintro _ _ ⟨rfl, rfl⟩
        have e94 : bS E G L (fun k => lt k 1 && decide (k = w)) (i + 1) (j - 1) = mG E G lt L i j (2 * w + 1) := by rw [bS_one (show w < 10 by omega), mG_o, if_pos q75.2]
        rw [e94]
        iterate 6 (refine zv_step (bX0_buildSpan (3 * (f + 1) + 4)) rfl rfl trivial ?_)
        refine zv_ifb (fun h108 => ?_) (fun h108 => ?_)
        · have q108 : mG E G lt L i j (2 * w + 1) ≤ p - sW (mG E G lt L i j) (2 * w) - mG E G lt L i j (2 * w) := (lN_leJ (h62 _ (by omega)) (by omega)).mp ((lg_cmp_ge _ _).mp h108)
          have hlt2 : 2 * w + 1 < c0 := by
            rcases Nat.lt_or_ge (2 * w + 1) c0 with e | e
            · exact e
            · have : 2 * w + 1 = c0 := by omega
              subst this
              omega
          iterate 6 (refine zv_step (bX0_buildSpan (3 * (f + 1) + 4)) rfl rfl trivial ?_)
          refine zv_locals (l := [(9, .int (nI w + Int32.ofInt 1)), (6, .long (lN (p - sW (mG E G lt L i j) (2 * w) - mG E G lt L i j (2 * w)) - lN (mG E G lt L i j (2 * w + 1)))), (12, .long (lN (mG E G lt L i j (2 * w + 1)))), (10, .long (lN (mG E G lt L i j (2 * w)))), (8, .int e), (0, .ref 31), (1, .ref 1), (2, .int (nI i)), (3, .int (nI j)), (4, .long kk)]) (l' := [(9, .int (nI w + Int32.ofInt 1)), (8, .int e), (6, .long (lN (p - sW (mG E G lt L i j) (2 * w) - mG E G lt L i j (2 * w)) - lN (mG E G lt L i j (2 * w + 1)))), (0, .ref 31), (1, .ref 1), (2, .int (nI i)), (3, .int (nI j)), (4, .long kk)]) (by simp) ?_
          rw [lN_sub q108, show p - sW (mG E G lt L i j) (2 * w) - mG E G lt L i j (2 * w) - mG E G lt L i j (2 * w + 1) = p - sW (mG E G lt L i j) (2 * (w + 1)) by omega]
          exact ih2 (w + 1) (by omega) (by omega) (nI_1 w)
        · have q108 : ¬ mG E G lt L i j (2 * w + 1) ≤ p - sW (mG E G lt L i j) (2 * w) - mG E G lt L i j (2 * w) := fun q => h108 ((lg_cmp_ge _ _).mpr ((lN_leJ (h62 _ (by omega)) (by omega)).mpr q))
          have hc0 : 2 * w + 1 = c0 := by
            rcases Nat.lt_or_ge (2 * w + 1) c0 with e | e
            · have := sW_mono (mG E G lt L i j) (2 * w + 1 + 1) (c0 - (2 * w + 1 + 1))
              rw [show 2 * w + 1 + 1 + (c0 - (2 * w + 1 + 1)) = c0 by omega] at this
              have s3 : sW (mG E G lt L i j) (2 * w + 1 + 1) = sW (mG E G lt L i j) (2 * w + 1) + mG E G lt L i j (2 * w + 1) := rfl
              omega
            · omega
          subst hc0
          have eq0 : p - sW (mG E G lt L i j) (2 * w) - mG E G lt L i j (2 * w) = q0 := by omega
          rw [show (2 * w + 1) / 2 = w by omega, show (2 * w + 1) % 2 = 1 by omega] at hR
          have hw0 := (mG_pos hq0).1
          rw [show (2 * w + 1) / 2 = w by omega, show (2 * w + 1) % 2 = 1 by omega] at hw0
          have hab1 : i + 1 < j - 1 := by
            rcases Nat.lt_or_ge (i + 1) (j - 1) with e | e
            · exact e
            · rw [wi_n e] at hw0
              omega
          refine zv_locals (l := [(12, .long (lN (mG E G lt L i j (2 * w + 1)))), (6, .long (lN (p - sW (mG E G lt L i j) (2 * w) - mG E G lt L i j (2 * w)))), (10, .long (lN (mG E G lt L i j (2 * w)))), (9, .int (nI w)), (8, .int e), (0, .ref 31), (1, .ref 1), (2, .int (nI i)), (3, .int (nI j)), (4, .long kk)]) (l' := [(12, .long (lN (mG E G lt L i j (2 * w + 1)))), (6, .long (lN (p - sW (mG E G lt L i j) (2 * w) - mG E G lt L i j (2 * w)))), (10, .long (lN (mG E G lt L i j (2 * w)))), (9, .int (nI w)), (8, .int e), (0, .ref 31), (1, .ref 1), (2, .int (nI i)), (3, .int (nI j)), (4, .long kk)]) (fun q h => h) ?_
          rw [eq0]
          iterate 10 (refine zv_step (bX0_buildSpan (3 * (f + 1) + 4)) rfl rfl trivial ?_)
          refine zv_V5 (bX0_buildSpan (3 * (f + 1) + 4)) rfl rfl rfl rfl rfl rfl rfl ⟨rfl, rfl, rfl⟩ ⟨by show 3 * f + 6 + 1 ≤ 3 * (f + 1) + 4; omega, by show 8 + (8 + 11) + 64 * (3 * f + 6) ≤ 64 * (3 * (f + 1) + 4); omega⟩ ⟨Nat.zero_le _, Nat.zero_le _⟩ (hBBX1 hE0 hn hG h0 h1 hY hB ih (st := st) hP (a := i + 1) (b := j - 1) (show w < 10 by omega) hab1 (by omega) (by omega) hw0 (by omega) hR hu (nI_1 i) (sub_1 (by omega))) ?_
          rintro _ _ ⟨P1, rfl, rfl, ly1, fr1, ln1⟩
          exact zv_iret (bX0_buildSpan (3 * (f + 1) + 4)) rfl (Or.inl rfl) (Nat.zero_le _) (Nat.zero_le _) ⟨P1, rfl, rfl, ly1, fr1, ln1⟩
    · have q51 : ¬ mG E G lt L i j (2 * w) ≤ p - sW (mG E G lt L i j) (2 * w) := fun q => h51 ((lg_cmp_ge _ _).mpr ((lN_leJ (h62 _ (by omega)) (by omega)).mpr q))
      have hc0 : 2 * w = c0 := by
        rcases Nat.lt_or_ge (2 * w) c0 with e | e
        · have := sW_mono (mG E G lt L i j) (2 * w + 1) (c0 - (2 * w + 1))
          rw [show 2 * w + 1 + (c0 - (2 * w + 1)) = c0 by omega] at this
          have s1 : sW (mG E G lt L i j) (2 * w + 1) = sW (mG E G lt L i j) (2 * w) + mG E G lt L i j (2 * w) := rfl
          omega
        · omega
      subst hc0
      have eq0 : p - sW (mG E G lt L i j) (2 * w) = q0 := by omega
      rw [show 2 * w / 2 = w by omega, show 2 * w % 2 = 0 by omega] at hR
      have hw0 := (mG_pos hq0).1
      rw [show 2 * w / 2 = w by omega, show 2 * w % 2 = 0 by omega] at hw0
      refine zv_locals (l := [(10, .long (lN (mG E G lt L i j (2 * w)))), (9, .int (nI w)), (8, .int e), (6, .long (lN (p - sW (mG E G lt L i j) (2 * w)))), (0, .ref 31), (1, .ref 1), (2, .int (nI i)), (3, .int (nI j)), (4, .long kk)]) (l' := [(10, .long (lN (mG E G lt L i j (2 * w)))), (9, .int (nI w)), (8, .int e), (6, .long (lN (p - sW (mG E G lt L i j) (2 * w)))), (0, .ref 31), (1, .ref 1), (2, .int (nI i)), (3, .int (nI j)), (4, .long kk)]) (fun q h => h) ?_
      rw [eq0]
      iterate 6 (refine zv_step (bX0_buildSpan (3 * (f + 1) + 4)) rfl rfl trivial ?_)
      refine zv_V5 (bX0_buildSpan (3 * (f + 1) + 4)) rfl rfl rfl rfl rfl rfl rfl ⟨rfl, rfl, rfl⟩ ⟨by show 3 * f + 6 + 1 ≤ 3 * (f + 1) + 4; omega, by show 8 + (8 + 11) + 64 * (3 * f + 6) ≤ 64 * (3 * (f + 1) + 4); omega⟩ ⟨Nat.zero_le _, Nat.zero_le _⟩ (hBBX1 hE0 hn hG h0 h1 hY hB ih (st := st) hP (show w < 10 by omega) hij hj hf hw0 (by omega) hR hu rfl rfl) ?_
      rintro _ _ ⟨P1, rfl, rfl, ly1, fr1, ln1⟩
      exact zv_iret (bX0_buildSpan (3 * (f + 1) + 4)) rfl (Or.inl rfl) (Nat.zero_le _) (Nat.zero_le _) ⟨P1, rfl, rfl, ly1, fr1, ln1⟩
theorem mG_le1 {n : Nat} (hn : n ≤ 20) {E : Nat → Nat} {G : Nat → Int32} {lt : Nat → Nat → Bool} {L : Nat → Nat → Nat} (hB : ∀ c d, c < d → d ≤ n → L c d ≤ 5 ^ (d - c - 1)) {i j : Nat} (hij : i < j) (hj : j ≤ n) (c : Nat) (hc : c < 20) : mG E G lt L i j c ≤ cap := by
  have hb : BD L i j := fun a b _ h2 h3 _ => hB a b h2 (by omega)
  have h1 := tS_le (E := E) (G := G) hb hij (by omega) lt
  rw [← sW_tS] at h1
  have h2 := sW_mono (mG E G lt L i j) (c + 1) (20 - (c + 1))
  rw [show c + 1 + (20 - (c + 1)) = 20 by omega] at h2
  have h3 : sW (mG E G lt L i j) (c + 1) = sW (mG E G lt L i j) c + mG E G lt L i j c := rfl
  have h4 := pow5_cap1 (n := j - i - 1) (by omega)
  omega
set_option maxHeartbeats 1000000 in
set_option maxRecDepth 20000 in
theorem hBSX1 {O : Nat → Int32} {Y : Nat → Nat → Int64} {g : Nat → zC} {P0 : Nat → Nat → Int32} {n : Nat} {E : Nat → Nat} (hE0 : eaR n P0 E) (hn : n ≤ 20) {G : Nat → Int32} (hG : gfR (O 12) G) {lt : Nat → Nat → Bool} (h0 : btR (O 10) (fun k => lt k 0)) (h1 : btR (O 11) (fun k => lt k 1)) {L : Nat → Nat → Nat} (hY : ∀ c d, c < d → d ≤ n → Y (34 + c) d = lN (L c d)) (hB : ∀ c d, c < d → d ≤ n → L c d ≤ 5 ^ (d - c - 1)) : ∀ (f i j p : Nat) (T : List (Nat × Nat)) (x y : Int32) (z : Int64), x = nI i → y = nI j → z = lN p → i < j → j ≤ n → j - i ≤ f → RT E (mG E G lt L) L f i j p T → ∀ (u : Nat) (P : Nat → Nat → Int32) (st : List Nat), P 32 = P0 32 → u + T.length ≤ 120 → zK (3 * f + 4) zX0_buildSpan [.ref 31, .ref 1, .int x, .int y, .long z] (wX (upd O 1 (nI (u))) P Y g) (fun r w' => ∃ P' : Nat → Nat → Int32, r = some (.int (nI (u + T.length - 1))) ∧ w' = wX (upd O 1 (nI (u + T.length))) P' Y g ∧ lyC 1 T (P, u, st) (P', u + T.length, (u + T.length - 1) :: st) ∧ (∀ i, ¬ (1 < i ∧ i ≤ 13) → P' i = P i) ∧ 1 ≤ T.length) := by
  intro f
  induction f with
  | zero =>
    intro i j p T x y z _ _ _ hij _ hf
    omega
  | succ f ih =>
    intro i j p T x y z ex ey ez hij hj hf hT u P st hP hu
    subst ex ey ez
    have hE := eaR_r hE0 hP
    obtain ⟨c0, q0, hc20, hp, hq0, hR⟩ := hT
    have h62 : ∀ c, c < 20 → mG E G lt L i j c < 2 ^ 62 := fun c e => by
      have := mG_le1 hn (E := E) (G := G) (lt := lt) hB hij hj c e
      unfold cap at this
      omega
    have hp9 : p < 2 ^ 62 := by
      have hb : BD L i j := fun a b _ h2 h3 _ => hB a b h2 (by omega)
      have h1 := tS_le (E := E) (G := G) hb hij (by omega) lt
      rw [← sW_tS] at h1
      have h2 := sW_mono (mG E G lt L i j) (c0 + 1) (20 - (c0 + 1))
      rw [show c0 + 1 + (20 - (c0 + 1)) = 20 by omega] at h2
      have h3 : sW (mG E G lt L i j) (c0 + 1) = sW (mG E G lt L i j) c0 + mG E G lt L i j c0 := rfl
      have h4 := pow5_cap1 (n := j - i - 1) (by omega)
      unfold cap at h4
      omega
    refine zK_of qX0_buildSpan (by decide +kernel) rfl ?_
    iterate 3 (refine zv_step (bX0_buildSpan (3 * (f + 1) + 4)) rfl rfl trivial ?_)
    refine zv_ift (nI_lt (by omega) (by omega)) ?_
    iterate 5 (refine zv_step (bX0_buildSpan (3 * (f + 1) + 4)) rfl rfl trivial ?_)
    refine zv_V2 (bX0_buildSpan (3 * (f + 1) + 4)) rfl rfl rfl rfl rfl rfl rfl ⟨rfl, rfl, rfl⟩ ⟨by show 0 + 1 ≤ 3 * (f + 1) + 4; omega, by show 8 + (3 + 11) + 64 * (0) ≤ 64 * (3 * (f + 1) + 4); omega⟩ ⟨Nat.zero_le _, Nat.zero_le _⟩ (hBr (upd O 1 (nI (u))) P Y g hij (by omega)) ?_
    rintro _ _ ⟨rfl, ⟨hh, rfl⟩ | ⟨hh, rfl⟩⟩
    · skip
      iterate 3 (refine zv_step (bX0_buildSpan (3 * (f + 1) + 4)) rfl rfl trivial ?_)
      rw [show lN p = lN (p - sW (mG E G lt L i j) (2 * 0)) by rw [show sW (mG E G lt L i j) (2 * 0) = 0 from rfl, Nat.sub_zero]]
      exact hBSLX1 hE0 hn hG h0 h1 hY hB ih hP hij hj hf hc20 hp hq0 hR hu hp9 h62 _ ⟨fun e => absurd e (by decide), fun _ => (br_E hE hij hj).mp hh⟩ 10 0 rfl (Nat.zero_le _) rfl
    · skip
      iterate 3 (refine zv_step (bX0_buildSpan (3 * (f + 1) + 4)) rfl rfl trivial ?_)
      rw [show lN p = lN (p - sW (mG E G lt L i j) (2 * 0)) by rw [show sW (mG E G lt L i j) (2 * 0) = 0 from rfl, Nat.sub_zero]]
      exact hBSLX1 hE0 hn hG h0 h1 hY hB ih hP hij hj hf hc20 hp hq0 hR hu hp9 h62 _ ⟨fun _ w => by
        rw [mG_o]
        split
        · rename_i q
          have : ¬ 2 < j - i := fun e => hh ((br_E hE hij hj).mpr ⟨e, q⟩)
          rw [wi_n (by omega)]
          split <;> rfl
        · rfl, fun e => absurd rfl e⟩ 10 0 rfl (Nat.zero_le _) rfl
set_option maxHeartbeats 1000000 in
set_option maxRecDepth 20000 in
theorem hBuildX1 {O : Nat → Int32} {Y : Nat → Nat → Int64} {g : Nat → zC} {P0 : Nat → Nat → Int32} {n : Nat} {E : Nat → Nat} (hE0 : eaR n P0 E) (hn : n ≤ 20) {G : Nat → Int32} (hG : gfR (O 12) G) {lt : Nat → Nat → Bool} (h0 : btR (O 10) (fun k => lt k 0)) (h1 : btR (O 11) (fun k => lt k 1)) {L : Nat → Nat → Nat} (hY : ∀ c d, c < d → d ≤ n → Y (34 + c) d = lN (L c d)) (hB : ∀ c d, c < d → d ≤ n → L c d ≤ 5 ^ (d - c - 1)) (hO : O 9 = nI n) (h9 : 0 < n) {p : Nat} {T : List (Nat × Nat)} (hT : RT E (mG E G lt L) L 20 0 n p T) {u : Nat} {P : Nat → Nat → Int32} {st : List Nat} (hP : P 32 = P0 32) (hu : u + T.length ≤ 120) : zK 65 zX0_build [.ref 31, .ref 1, .long (lN p)] (wX (upd O 1 (nI (u))) P Y g) (fun r w' => ∃ P' : Nat → Nat → Int32, r = some (.int (nI (u + T.length - 1))) ∧ w' = wX (upd O 1 (nI (u + T.length))) P' Y g ∧ lyC 1 T (P, u, st) (P', u + T.length, (u + T.length - 1) :: st) ∧ (∀ i, ¬ (1 < i ∧ i ≤ 13) → P' i = P i) ∧ 1 ≤ T.length) := by
  refine zK_of qX0_build (by decide +kernel) rfl ?_
  iterate 6 (refine zv_step (bX0_build 65) rfl rfl trivial ?_)
  refine zv_V4 (bX0_build 65) rfl rfl rfl rfl rfl rfl rfl ⟨rfl, rfl, rfl⟩ ⟨by decide, by decide⟩ ⟨Nat.zero_le _, Nat.zero_le _⟩ (hBSX1 hE0 hn hG h0 h1 hY hB 20 0 n p T _ _ _ rfl hO rfl h9 (Nat.le_refl _) (by omega) hT u P st hP hu) ?_
  rintro _ _ ⟨P1, rfl, rfl, ly1, fr1, ln1⟩
  exact zv_iret (bX0_build 65) rfl (Or.inl rfl) (Nat.zero_le _) (Nat.zero_le _) ⟨P1, rfl, rfl, ly1, fr1, ln1⟩
end
