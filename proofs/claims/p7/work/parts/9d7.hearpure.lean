theorem tmW_eq {a b : Nat} (h : a * b ≤ cap) : tmW a b = a * b := if_pos h
theorem plW_eq {a b : Nat} (h : a + b ≤ cap) : plW a b = a + b := if_pos h
theorem csW_eq {g : Nat → Nat} : ∀ c, sW g c ≤ cap → csW g c = sW g c
  | 0, _ => rfl
  | c + 1, h => by
    have h' : sW g c + g c ≤ cap := h
    show plW (csW g c) (g c) = sW g c + g c
    rw [csW_eq c (by omega), plW_eq h']
theorem pfS_mono {E : Nat → Nat} {L : Nat → Nat → Nat} {k a b : Nat} (d : Nat) : ∀ c, pfS E L k a b d ≤ pfS E L k a b (d + c)
  | 0 => Nat.le_refl _
  | c + 1 => Nat.le_trans (pfS_mono d c) (Nat.le_add_right _ _)
theorem wiP_eq {E : Nat → Nat} {L : Nat → Nat → Nat} {k a b : Nat} : ∀ (c d n : Nat), n = pfS E L k a b d → pfS E L k a b (d + c) ≤ cap → wiP E L k a b c (a + 1 + d) n = pfS E L k a b (d + c)
  | 0, d, n, h, _ => h
  | c + 1, d, n, h, hc => by
    rw [show d + (c + 1) = d + 1 + c by omega] at hc ⊢
    have hm := pfS_mono (E := E) (L := L) (k := k) (a := a) (b := b) (d + 1) c
    refine wiP_eq c (d + 1) _ ?_ hc
    have e : pfS E L k a b (d + 1) = pfS E L k a b d + (if E (a + 1 + d) = 18 + k then tmW (L a (a + 1 + d)) (L (a + 1 + d + 1) b) else 0) := rfl
    rw [e] at hm ⊢
    rw [h]
    split
    · rename_i q
      rw [if_pos q] at hm
      exact plW_eq (by omega)
    · rfl
/-- a sum over KINDS -/
def kS (K : Nat → Bool) (w : Nat → Nat) : Nat → Nat
  | 0 => 0
  | c + 1 => kS K w c + (if K c = true then w c else 0)
/-- READINGS of the words i .. j, not KEPT, of the KINDS K -/
def bS (E : Nat → Nat) (G : Nat → Int32) (L : Nat → Nat → Nat) (K : Nat → Bool) (i j : Nat) : Nat := kS K (fun k => wi E G L k i j) 10
/-- the pairs among them whose word stands ahead of place a + 1 + c -/
def pK (E : Nat → Nat) (L : Nat → Nat → Nat) (K : Nat → Bool) (a b : Nat) : Nat → Nat
  | 0 => 0
  | c + 1 => pK E L K a b c + (if 20 ≤ E (a + 1 + c) ∧ E (a + 1 + c) ≤ 24 ∧ K (E (a + 1 + c) - 18) = true then tmW (L a (a + 1 + c)) (L (a + 1 + c + 1) b) else 0)
theorem ite_add {b : Bool} (x y : Nat) : (if b = true then x + y else 0) = (if b = true then x else 0) + (if b = true then y else 0) := by
  cases b <;> rfl
theorem one_k (K : Nat → Bool) (e t : Nat) : (if K 2 = true then (if e = 18 + 2 then t else 0) else 0) + (if K 3 = true then (if e = 18 + 3 then t else 0) else 0) + (if K 4 = true then (if e = 18 + 4 then t else 0) else 0) + (if K 5 = true then (if e = 18 + 5 then t else 0) else 0) + (if K 6 = true then (if e = 18 + 6 then t else 0) else 0) = if 20 ≤ e ∧ e ≤ 24 ∧ K (e - 18) = true then t else 0 := by
  by_cases h : 20 ≤ e ∧ e ≤ 24
  · have q : e = 20 ∨ e = 21 ∨ e = 22 ∨ e = 23 ∨ e = 24 := by omega
    rcases q with rfl | rfl | rfl | rfl | rfl <;> simp
  · rw [if_neg (show ¬ e = 18 + 2 by omega), if_neg (show ¬ e = 18 + 3 by omega), if_neg (show ¬ e = 18 + 4 by omega), if_neg (show ¬ e = 18 + 5 by omega), if_neg (show ¬ e = 18 + 6 by omega), if_neg (show ¬ (20 ≤ e ∧ e ≤ 24 ∧ K (e - 18) = true) from fun q => h ⟨q.1, q.2.1⟩)]
    simp
theorem pK_eq (E : Nat → Nat) (L : Nat → Nat → Nat) (K : Nat → Bool) (a b : Nat) : ∀ c, (if K 2 = true then pfS E L 2 a b c else 0) + (if K 3 = true then pfS E L 3 a b c else 0) + (if K 4 = true then pfS E L 4 a b c else 0) + (if K 5 = true then pfS E L 5 a b c else 0) + (if K 6 = true then pfS E L 6 a b c else 0) = pK E L K a b c
  | 0 => by
    show (if K 2 = true then 0 else 0) + (if K 3 = true then 0 else 0) + (if K 4 = true then 0 else 0) + (if K 5 = true then 0 else 0) + (if K 6 = true then 0 else 0) = 0
    simp
  | c + 1 => by
    have ih := pK_eq E L K a b c
    have e : ∀ k, pfS E L k a b (c + 1) = pfS E L k a b c + (if E (a + 1 + c) = 18 + k then tmW (L a (a + 1 + c)) (L (a + 1 + c + 1) b) else 0) := fun _ => rfl
    have h1 := one_k K (E (a + 1 + c)) (tmW (L a (a + 1 + c)) (L (a + 1 + c + 1) b))
    rw [e 2, e 3, e 4, e 5, e 6, ite_add, ite_add, ite_add, ite_add, ite_add]
    show _ = pK E L K a b c + _
    omega
/-- which KIND but a pair the words' ends allow; 10: none -/
def keV (E : Nat → Nat) (G : Nat → Int32) (i j : Nat) : Nat :=
  if E i < 10 then (if G (E i) = 0 then (if j - i = 1 then 0 else 10) else (if 2 < j - i ∧ E (i + 1) = 28 then 9 else 10))
  else if E i = 25 then (if 1 < j - i then 7 else 10)
  else if E i = 26 then (if 2 < j - i ∧ E (j - 1) = 27 then 8 else 10)
  else if isNumB E i j = true then 1 else 10
def pfN (k i : Nat) : Nat := if k = 9 then i + 2 else i + 1
def ptN (k j : Nat) : Nat := if k = 8 then j - 1 else j
def neV (E : Nat → Nat) (G : Nat → Int32) (L : Nat → Nat → Nat) (K : Nat → Bool) (i j : Nat) : Nat :=
  if keV E G i j = 10 ∨ ¬ K (keV E G i j) = true then 0 else if keV E G i j ≤ 1 then 1 else L (pfN (keV E G i j) i) (ptN (keV E G i j) j)
theorem keV_c {E : Nat → Nat} {G : Nat → Int32} {i j : Nat} (hij : i < j) (L : Nat → Nat → Nat) (k : Nat) (hk : k < 2 ∨ (7 ≤ k ∧ k < 10)) : wi E G L k i j = if keV E G i j = k then (if k ≤ 1 then 1 else L (pfN k i) (ptN k j)) else 0 := by
  have hn : isNumB E i j = true → 10 ≤ E i ∧ E i ≤ 19 := fun h => (isNumB_at h).2.2 i (Nat.le_refl _) hij
  have w0 := wi_0 (E := E) (G := G) (L := L) hij
  have w1 := wi_1 (E := E) (G := G) (L := L) hij
  have w7 := wi_7 (E := E) (G := G) (L := L) hij
  have w8 := wi_8 (E := E) (G := G) (L := L) hij
  have w9 := wi_9 (E := E) (G := G) (L := L) hij
  have q : k = 0 ∨ k = 1 ∨ k = 7 ∨ k = 8 ∨ k = 9 := by omega
  unfold keV
  by_cases h : E i < 10
  · have n1 : ¬ isNumB E i j = true := fun e => by have := hn e; omega
    have n7 : ¬ E i = 25 := by omega
    have n8 : ¬ E i = 26 := by omega
    by_cases g : G (E i) = 0
    · by_cases w : j - i = 1
      · rcases q with rfl | rfl | rfl | rfl | rfl
        · rw [w0]; simp [h, g, w]
        · rw [w1]; simp [h, g, w, n1]
        · rw [w7]; simp [h, g, w, n7]
        · rw [w8]; simp [h, g, w, n8]
        · rw [w9]; simp [h, g, w]
      · rcases q with rfl | rfl | rfl | rfl | rfl
        · rw [w0]; simp [h, g, w]
        · rw [w1]; simp [h, g, w, n1]
        · rw [w7]; simp [h, g, w, n7]
        · rw [w8]; simp [h, g, w, n8]
        · rw [w9]; simp [h, g, w]
    · by_cases w : 2 < j - i ∧ E (i + 1) = 28
      · rcases q with rfl | rfl | rfl | rfl | rfl
        · rw [w0]; simp [h, g, w]
        · rw [w1]; simp [h, g, w, n1]
        · rw [w7]; simp [h, g, w, n7]
        · rw [w8]; simp [h, g, w, n8]
        · rw [w9]; simp [h, g, w, pfN, ptN]
      · rcases q with rfl | rfl | rfl | rfl | rfl
        · rw [w0]; simp [h, g, w]
        · rw [w1]; simp [h, g, w, n1]
        · rw [w7]; simp [h, g, w, n7]
        · rw [w8]; simp [h, g, w, n8]
        · rw [w9, if_neg (show ¬ (E i < 10 ∧ ¬ G (E i) = 0 ∧ 2 < j - i ∧ E (i + 1) = 28) from fun q => w q.2.2)]; simp [h, g, w]
  · rw [if_neg h]
    have n0 : ¬ (j - i = 1 ∧ E i < 10 ∧ G (E i) = 0) := fun q => h q.2.1
    have n9 : ¬ (E i < 10 ∧ ¬ G (E i) = 0 ∧ 2 < j - i ∧ E (i + 1) = 28) := fun q => h q.1
    rw [if_neg n0] at w0
    rw [if_neg n9] at w9
    by_cases h7 : E i = 25
    · have n1 : ¬ isNumB E i j = true := fun e => by have := hn e; omega
      have n8 : ¬ E i = 26 := by omega
      rw [if_neg n1] at w1
      rw [if_neg (show ¬ (E i = 26 ∧ E (j - 1) = 27 ∧ 2 < j - i) from fun q => n8 q.1)] at w8
      rw [if_pos h7]
      by_cases w : 1 < j - i
      · rw [if_pos (show E i = 25 ∧ 1 < j - i from ⟨h7, w⟩)] at w7
        rw [if_pos w]
        rcases q with rfl | rfl | rfl | rfl | rfl
        · rw [w0]; rfl
        · rw [w1]; rfl
        · rw [w7]; rfl
        · rw [w8]; rfl
        · rw [w9]; rfl
      · rw [if_neg (show ¬ (E i = 25 ∧ 1 < j - i) from fun q => w q.2)] at w7
        rw [if_neg w]
        rcases q with rfl | rfl | rfl | rfl | rfl
        · rw [w0]; rfl
        · rw [w1]; rfl
        · rw [w7]; rfl
        · rw [w8]; rfl
        · rw [w9]; rfl
    · rw [if_neg h7]
      rw [if_neg (show ¬ (E i = 25 ∧ 1 < j - i) from fun q => h7 q.1)] at w7
      by_cases h8 : E i = 26
      · have n1 : ¬ isNumB E i j = true := fun e => by have := hn e; omega
        rw [if_neg n1] at w1
        rw [if_pos h8]
        by_cases w : 2 < j - i ∧ E (j - 1) = 27
        · rw [if_pos (show E i = 26 ∧ E (j - 1) = 27 ∧ 2 < j - i from ⟨h8, w.2, w.1⟩)] at w8
          rw [if_pos w]
          rcases q with rfl | rfl | rfl | rfl | rfl
          · rw [w0]; rfl
          · rw [w1]; rfl
          · rw [w7]; rfl
          · rw [w8]; rfl
          · rw [w9]; rfl
        · rw [if_neg (show ¬ (E i = 26 ∧ E (j - 1) = 27 ∧ 2 < j - i) from fun q => w ⟨q.2.2, q.2.1⟩)] at w8
          rw [if_neg w]
          rcases q with rfl | rfl | rfl | rfl | rfl
          · rw [w0]; rfl
          · rw [w1]; rfl
          · rw [w7]; rfl
          · rw [w8]; rfl
          · rw [w9]; rfl
      · rw [if_neg h8]
        rw [if_neg (show ¬ (E i = 26 ∧ E (j - 1) = 27 ∧ 2 < j - i) from fun q => h8 q.1)] at w8
        by_cases n1 : isNumB E i j = true
        · rw [if_pos n1] at w1
          rw [if_pos n1]
          rcases q with rfl | rfl | rfl | rfl | rfl
          · rw [w0]; rfl
          · rw [w1]; rfl
          · rw [w7]; rfl
          · rw [w8]; rfl
          · rw [w9]; rfl
        · rw [if_neg n1] at w1
          rw [if_neg n1]
          rcases q with rfl | rfl | rfl | rfl | rfl
          · rw [w0]; rfl
          · rw [w1]; rfl
          · rw [w7]; rfl
          · rw [w8]; rfl
          · rw [w9]; rfl
theorem keV_in (E : Nat → Nat) (G : Nat → Int32) (i j : Nat) : keV E G i j = 0 ∧ j - i = 1 ∨ keV E G i j = 1 ∨ keV E G i j = 7 ∧ 1 < j - i ∨ keV E G i j = 8 ∧ 2 < j - i ∨ keV E G i j = 9 ∧ 2 < j - i ∨ keV E G i j = 10 := by
  unfold keV
  split
  · split
    · split <;> omega
    · split <;> omega
  · split
    · split <;> omega
    · split
      · split <;> omega
      · split <;> omega
theorem neV_eq {E : Nat → Nat} {G : Nat → Int32} {i j : Nat} (hij : i < j) (L : Nat → Nat → Nat) (K : Nat → Bool) : (if K 0 = true then wi E G L 0 i j else 0) + (if K 1 = true then wi E G L 1 i j else 0) + (if K 7 = true then wi E G L 7 i j else 0) + (if K 8 = true then wi E G L 8 i j else 0) + (if K 9 = true then wi E G L 9 i j else 0) = neV E G L K i j := by
  rw [keV_c hij L 0 (by decide), keV_c hij L 1 (by decide), keV_c hij L 7 (by decide), keV_c hij L 8 (by decide), keV_c hij L 9 (by decide)]
  unfold neV
  rcases keV_in E G i j with e | e | e | e | e | e
  · rw [e.1]; cases h : K 0 <;> simp
  · rw [e]; cases h : K 1 <;> simp
  · rw [e.1]; cases h : K 7 <;> simp
  · rw [e.1]; cases h : K 8 <;> simp
  · rw [e.1]; cases h : K 9 <;> simp
  · rw [e]; simp
/-- shorter spans have few READINGS -/
def BD (L : Nat → Nat → Nat) (i j : Nat) : Prop := ∀ a b, i ≤ a → a < b → b ≤ j → b - a < j - i → L a b ≤ 5 ^ (b - a - 1)
theorem pow5 {n m : Nat} (h : n ≤ m) : 5 ^ n ≤ 5 ^ m := Nat.pow_le_pow_right (by decide) h
theorem tm_5 {L : Nat → Nat → Nat} {i j c : Nat} (h : BD L i j) (hc : i + 1 + c + 1 < j) : L i (i + 1 + c) * L (i + 1 + c + 1) j ≤ 5 ^ (j - i - 3) := by
  have h1 := h i (i + 1 + c) (Nat.le_refl _) (by omega) (by omega) (by omega)
  have h2 := h (i + 1 + c + 1) j (by omega) (by omega) (Nat.le_refl _) (by omega)
  refine Nat.le_trans (Nat.mul_le_mul h1 h2) ?_
  rw [← Nat.pow_add]
  exact pow5 (by omega)
theorem pow5_cap {n : Nat} (h : n ≤ 17) : 18 * 5 ^ n ≤ cap := by
  have := Nat.mul_le_mul_left 18 (pow5 h)
  exact Nat.le_trans this (by decide)
theorem pK_le {E : Nat → Nat} {L : Nat → Nat → Nat} {K : Nat → Bool} {i j : Nat} (h : BD L i j) : ∀ c, i + 1 + c < j → pK E L K i j c ≤ c * 5 ^ (j - i - 3)
  | 0, _ => Nat.zero_le _
  | c + 1, hc => by
    have ih := pK_le (E := E) (K := K) h c (by omega)
    show pK E L K i j c + _ ≤ _
    rw [Nat.succ_mul]
    split
    · exact Nat.add_le_add ih (Nat.le_trans (tmW_le _ _).2 (tm_5 h (by omega)))
    · exact Nat.le_trans ih (Nat.le_add_right _ _)
theorem pfS_pK {E : Nat → Nat} {L : Nat → Nat → Nat} {k a b : Nat} (k2 : 2 ≤ k) (k6 : k ≤ 6) (c : Nat) : pfS E L k a b c ≤ pK E L (fun _ => true) a b c := by
  have h := pK_eq E L (fun _ => true) a b c
  simp only [if_true] at h
  have q : k = 2 ∨ k = 3 ∨ k = 4 ∨ k = 5 ∨ k = 6 := by omega
  rcases q with rfl | rfl | rfl | rfl | rfl <;> omega
theorem pfS_cap {E : Nat → Nat} {L : Nat → Nat → Nat} {k i j : Nat} (h : BD L i j) (hij : i < j) (hw : j - i ≤ 20) (k2 : 2 ≤ k) (k6 : k ≤ 6) : pfS E L k i j (j - 1 - (i + 1)) ≤ cap := by
  rcases Nat.lt_or_ge (j - i) 3 with g | g
  · rw [show j - 1 - (i + 1) = 0 by omega]
    exact Nat.zero_le _
  · refine Nat.le_trans (pfS_pK k2 k6 _) (Nat.le_trans (pK_le h _ (by omega)) (Nat.le_trans ?_ (pow5_cap (n := j - i - 3) (by omega))))
    exact Nat.mul_le_mul_right _ (by omega)
theorem wi_pf {E : Nat → Nat} {G : Nat → Int32} {L : Nat → Nat → Nat} {k i j : Nat} (h : BD L i j) (hij : i < j) (hw : j - i ≤ 20) (k2 : 2 ≤ k) (k6 : k ≤ 6) : wi E G L k i j = pfS E L k i j (j - 1 - (i + 1)) := by
  rw [wi_2 hij k2 k6]
  have := wiP_eq (E := E) (L := L) (k := k) (a := i) (b := j) (j - 1 - (i + 1)) 0 0 rfl (by rw [Nat.zero_add]; exact pfS_cap h hij hw k2 k6)
  rwa [Nat.zero_add] at this
theorem bS_eq {E : Nat → Nat} {G : Nat → Int32} {L : Nat → Nat → Nat} {i j : Nat} (h : BD L i j) (hij : i < j) (hw : j - i ≤ 20) (K : Nat → Bool) : bS E G L K i j = pK E L K i j (j - 1 - (i + 1)) + neV E G L K i j := by
  have h1 := pK_eq E L K i j (j - 1 - (i + 1))
  have h2 := neV_eq (E := E) (G := G) hij L K
  rw [← h1, ← h2]
  rw [← wi_pf (E := E) (G := G) h hij hw (k := 2) (by decide) (by decide), ← wi_pf (E := E) (G := G) h hij hw (k := 3) (by decide) (by decide), ← wi_pf (E := E) (G := G) h hij hw (k := 4) (by decide) (by decide), ← wi_pf (E := E) (G := G) h hij hw (k := 5) (by decide) (by decide), ← wi_pf (E := E) (G := G) h hij hw (k := 6) (by decide) (by decide)]
  show 0 + (if K 0 = true then wi E G L 0 i j else 0) + (if K 1 = true then wi E G L 1 i j else 0) + (if K 2 = true then wi E G L 2 i j else 0) + (if K 3 = true then wi E G L 3 i j else 0) + (if K 4 = true then wi E G L 4 i j else 0) + (if K 5 = true then wi E G L 5 i j else 0) + (if K 6 = true then wi E G L 6 i j else 0) + (if K 7 = true then wi E G L 7 i j else 0) + (if K 8 = true then wi E G L 8 i j else 0) + (if K 9 = true then wi E G L 9 i j else 0) = _
  omega
def hB5 (w : Nat) : Nat := if w < 3 then 1 else 23 * 5 ^ (w - 3)
theorem neV_le {E : Nat → Nat} {G : Nat → Int32} {L : Nat → Nat → Nat} {K : Nat → Bool} {i j : Nat} (h : BD L i j) (hij : i < j) : neV E G L K i j ≤ 5 ^ (j - i - 2) := by
  have one : 1 ≤ 5 ^ (j - i - 2) := Nat.one_le_pow _ _ (by decide)
  unfold neV
  split
  · exact Nat.zero_le _
  · split
    · exact one
    · have hL : ∀ a b, i < a → a < b → b ≤ j → L a b ≤ 5 ^ (j - i - 2) := fun a b h1 h2 h3 => Nat.le_trans (h a b (by omega) h2 h3 (by omega)) (pow5 (by omega))
      rcases keV_in E G i j with e | e | e | e | e | e
      · omega
      · omega
      · rw [e.1]; exact hL _ _ (by show i < i + 1; omega) (by show i + 1 < j; omega) (Nat.le_refl _)
      · rw [e.1]; exact hL _ _ (by show i < i + 1; omega) (by show i + 1 < j - 1; omega) (by show j - 1 ≤ j; omega)
      · rw [e.1]; exact hL _ _ (by show i < i + 2; omega) (by show i + 2 < j; omega) (Nat.le_refl _)
      · omega
theorem bS_le {E : Nat → Nat} {G : Nat → Int32} {L : Nat → Nat → Nat} {i j : Nat} (h : BD L i j) (hij : i < j) (hw : j - i ≤ 20) (K : Nat → Bool) : bS E G L K i j ≤ hB5 (j - i) := by
  rw [bS_eq h hij hw K]
  have h2 := neV_le (E := E) (G := G) (K := K) h hij
  unfold hB5
  split
  · rename_i g
    rw [show j - 1 - (i + 1) = 0 by omega]
    rw [show j - i - 2 = 0 by omega] at h2
    show 0 + _ ≤ 1
    omega
  · rename_i g
    have h1 := pK_le (E := E) (K := K) h (j - 1 - (i + 1)) (by omega)
    have h3 : (j - 1 - (i + 1)) * 5 ^ (j - i - 3) ≤ 18 * 5 ^ (j - i - 3) := Nat.mul_le_mul_right _ (by omega)
    rw [show j - i - 2 = j - i - 3 + 1 by omega, Nat.pow_succ] at h2
    omega
/-- READINGS of the words i .. j of each sort c: KIND c / 2, KEPT or not -/
def mG (E : Nat → Nat) (G : Nat → Int32) (lt : Nat → Nat → Bool) (L : Nat → Nat → Nat) (i j c : Nat) : Nat := if lt (c / 2) (c % 2) = true ∧ (c % 2 = 0 ∨ (E i = 29 ∧ E (j - 1) = 30)) then wi E G L (c / 2) (i + c % 2) (j - c % 2) else 0
theorem mW_G (A : Nat → Nat → Int32) (s : Nat) (L : Nat → Nat → Nat) : mW A s L = mG (eW A) (A 6) (ltW A s) L := rfl
theorem mG_e {E : Nat → Nat} {G : Nat → Int32} {lt : Nat → Nat → Bool} {L : Nat → Nat → Nat} {i j : Nat} (k : Nat) : mG E G lt L i j (2 * k) = if lt k 0 = true then wi E G L k i j else 0 := by
  unfold mG
  rw [show 2 * k / 2 = k by omega, show 2 * k % 2 = 0 by omega]
  by_cases h : lt k 0 = true
  · rw [if_pos ⟨h, Or.inl rfl⟩, if_pos h]
    rfl
  · rw [if_neg (fun q => h q.1), if_neg h]
theorem mG_o {E : Nat → Nat} {G : Nat → Int32} {lt : Nat → Nat → Bool} {L : Nat → Nat → Nat} {i j : Nat} (k : Nat) : mG E G lt L i j (2 * k + 1) = if E i = 29 ∧ E (j - 1) = 30 then (if lt k 1 = true then wi E G L k (i + 1) (j - 1) else 0) else 0 := by
  unfold mG
  rw [show (2 * k + 1) / 2 = k by omega, show (2 * k + 1) % 2 = 1 by omega]
  by_cases h : lt k 1 = true
  · by_cases g : E i = 29 ∧ E (j - 1) = 30
    · rw [if_pos ⟨h, Or.inr g⟩, if_pos g, if_pos h]
    · rw [if_neg (fun q => q.2.elim (by decide) g), if_neg g]
  · rw [if_neg (fun q => h q.1)]
    rw [if_neg h]
    split <;> rfl
abbrev brE (E : Nat → Nat) (i j : Nat) : Prop := E i = 29 ∧ E (j - 1) = 30
theorem sW_mG (E : Nat → Nat) (G : Nat → Int32) (lt : Nat → Nat → Bool) (L : Nat → Nat → Nat) (i j : Nat) : ∀ c, sW (mG E G lt L i j) (2 * c) = kS (fun k => lt k 0) (fun k => wi E G L k i j) c + if brE E i j then kS (fun k => lt k 1) (fun k => wi E G L k (i + 1) (j - 1)) c else 0
  | 0 => by
    show 0 = 0 + if brE E i j then 0 else 0
    split <;> rfl
  | c + 1 => by
    show sW (mG E G lt L i j) (2 * c) + mG E G lt L i j (2 * c) + mG E G lt L i j (2 * c + 1) = (kS (fun k => lt k 0) (fun k => wi E G L k i j) c + (if lt c 0 = true then wi E G L c i j else 0)) + if brE E i j then kS (fun k => lt k 1) (fun k => wi E G L k (i + 1) (j - 1)) c + (if lt c 1 = true then wi E G L c (i + 1) (j - 1) else 0) else 0
    rw [sW_mG E G lt L i j c, mG_e, mG_o]
    by_cases g : brE E i j
    · simp only [if_pos g]
      omega
    · simp only [if_neg g]
      omega
/-- all READINGS of a span -/
def tS (E : Nat → Nat) (G : Nat → Int32) (lt : Nat → Nat → Bool) (L : Nat → Nat → Nat) (i j : Nat) : Nat := bS E G L (fun k => lt k 0) i j + if brE E i j then bS E G L (fun k => lt k 1) (i + 1) (j - 1) else 0
theorem sW_tS (E : Nat → Nat) (G : Nat → Int32) (lt : Nat → Nat → Bool) (L : Nat → Nat → Nat) (i j : Nat) : sW (mG E G lt L i j) 20 = tS E G lt L i j := sW_mG E G lt L i j 10
theorem kS_0 {K : Nat → Bool} {w : Nat → Nat} (h : ∀ k, w k = 0) : ∀ c, kS K w c = 0
  | 0 => rfl
  | c + 1 => by
    show kS K w c + _ = 0
    rw [kS_0 h c, h c]
    split <;> rfl
theorem bS_n {E : Nat → Nat} {G : Nat → Int32} {L : Nat → Nat → Nat} {i j : Nat} (K : Nat → Bool) (h : j ≤ i) : bS E G L K i j = 0 := kS_0 (fun _ => wi_n h) 10
theorem BD_in {L : Nat → Nat → Nat} {i j i' j' : Nat} (h : BD L i j) (h1 : i ≤ i') (h2 : j' ≤ j) : BD L i' j' := fun a b q1 q2 q3 q4 => h a b (by omega) q2 (by omega) (by omega)
theorem tS_le {E : Nat → Nat} {G : Nat → Int32} {L : Nat → Nat → Nat} {i j : Nat} (h : BD L i j) (hij : i < j) (hw : j - i ≤ 20) (lt : Nat → Nat → Bool) : tS E G lt L i j ≤ 5 ^ (j - i - 1) := by
  unfold tS
  have h1 := bS_le (E := E) (G := G) h hij hw (fun k => lt k 0)
  have h2 : (if brE E i j then bS E G L (fun k => lt k 1) (i + 1) (j - 1) else 0) ≤ if 2 < j - i then hB5 (j - i - 2) else 0 := by
    split
    · split
      · have := bS_le (E := E) (G := G) (i := i + 1) (j := j - 1) (BD_in h (by omega) (by omega)) (by omega) (by omega) (fun k => lt k 1)
        rwa [show j - 1 - (i + 1) = j - i - 2 by omega] at this
      · rw [bS_n _ (by omega)]
        exact Nat.le_refl _
    · exact Nat.zero_le _
  unfold hB5 at h1 h2
  rcases Nat.lt_or_ge (j - i) 3 with g | g
  · rw [if_pos g] at h1
    rw [if_neg (show ¬ 2 < j - i by omega)] at h2
    have : 1 ≤ 5 ^ (j - i - 1) := Nat.one_le_pow _ _ (by decide)
    omega
  · rw [if_neg (show ¬ j - i < 3 by omega)] at h1
    rw [if_pos (show 2 < j - i by omega)] at h2
    have e1 : 5 ^ (j - i - 1) = 25 * 5 ^ (j - i - 3) := by
      rw [show j - i - 1 = j - i - 3 + 2 by omega, Nat.pow_add]
      omega
    have e2 : 1 ≤ 5 ^ (j - i - 3) := Nat.one_le_pow _ _ (by decide)
    rcases Nat.lt_or_ge (j - i - 2) 3 with g2 | g2
    · rw [if_pos g2] at h2
      omega
    · rw [if_neg (show ¬ j - i - 2 < 3 by omega)] at h2
      have e3 : 5 ^ (j - i - 3) = 25 * 5 ^ (j - i - 2 - 3) := by
        rw [show j - i - 3 = j - i - 2 - 3 + 2 by omega, Nat.pow_add]
        omega
      omega
theorem pow5_cap1 {n : Nat} (h : n ≤ 19) : 5 ^ n ≤ cap := Nat.le_trans (pow5 h) (by decide)
/-- counts that are consistent are small, and no cap was reached -/
theorem L_le {E : Nat → Nat} {G : Nat → Int32} {lt : Nat → Nat → Bool} {L : Nat → Nat → Nat} {h : Nat} (hh : h ≤ 20) (hL : ∀ i j, i < j → j ≤ h → L i j = csW (mG E G lt L i j) 20) : ∀ (d i j : Nat), i < j → j ≤ h → j - i ≤ d → L i j ≤ 5 ^ (j - i - 1) ∧ L i j = tS E G lt L i j
  | 0, i, j, h1, h2, h3 => absurd h1 (by omega)
  | d + 1, i, j, h1, h2, h3 => by
    have hb : BD L i j := fun a b q1 q2 q3 q4 => (L_le hh hL d a b q2 (by omega) (by omega)).1
    have ht := tS_le (E := E) (G := G) hb h1 (by omega) lt
    have e : L i j = tS E G lt L i j := by
      rw [hL i j h1 h2, csW_eq 20 (by rw [sW_tS]; exact Nat.le_trans ht (pow5_cap1 (by omega))), sW_tS]
    exact ⟨by rw [e]; exact ht, e⟩
theorem mG_cg {E : Nat → Nat} {G : Nat → Int32} {lt : Nat → Nat → Bool} {L L' : Nat → Nat → Nat} {i j c : Nat} (e : ∀ a b, i ≤ a → a < b → b ≤ j → b - a < j - i → L a b = L' a b) : mG E G lt L i j c = mG E G lt L' i j c := by
  unfold mG
  split
  · exact wi_cg (fun a b h1 h2 h3 h4 => e a b (by omega) h2 (by omega) (by omega))
  · rfl
theorem sW_cg {g g' : Nat → Nat} : ∀ c, (∀ d, d < c → g d = g' d) → sW g c = sW g' c
  | 0, _ => rfl
  | c + 1, h => by
    show sW g c + g c = sW g' c + g' c
    rw [sW_cg c (fun d hd => h d (by omega)), h c (by omega)]
theorem tS_cg {E : Nat → Nat} {G : Nat → Int32} {lt : Nat → Nat → Bool} {L L' : Nat → Nat → Nat} {i j : Nat} (e : ∀ a b, i ≤ a → a < b → b ≤ j → b - a < j - i → L a b = L' a b) : tS E G lt L i j = tS E G lt L' i j := by
  rw [← sW_tS, ← sW_tS]
  exact sW_cg 20 (fun d _ => mG_cg e)
theorem L_uq {E : Nat → Nat} {G : Nat → Int32} {lt : Nat → Nat → Bool} {L L' : Nat → Nat → Nat} {h : Nat} (hL : ∀ i j, i < j → j ≤ h → L i j = tS E G lt L i j) (hL' : ∀ i j, i < j → j ≤ h → L' i j = tS E G lt L' i j) : ∀ (d i j : Nat), i < j → j ≤ h → j - i ≤ d → L i j = L' i j
  | 0, i, j, h1, h2, h3 => absurd h1 (by omega)
  | d + 1, i, j, h1, h2, h3 => by
    rw [hL i j h1 h2, hL' i j h1 h2]
    exact tS_cg (fun a b q1 q2 q3 q4 => L_uq hL hL' d a b q2 (by omega) (by omega))
