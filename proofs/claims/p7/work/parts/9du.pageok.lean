/-! hear, hush, leaf, node, undo, walk: the same state again -/
theorem SS_lv {u u' h : Nat} {O : Nat → Int32} {P : Nat → Nat → Int32} {o : Nat → Int32} {A : Nat → Nat → Int32} (s : SS u h O P o A) (hu : u' ≤ u) : SS u' h (upd O 1 (nI u')) P (upd o 0 (nI u')) A := SS_page s (NR_le s.2.2.1 hu) (fun _ _ => rfl) (fun _ _ => rfl)
/-- hush -/
theorem hush_ok {u h : Nat} (hu : u ≤ 120) {O : Nat → Int32} {P : Nat → Nat → Int32} {o : Nat → Int32} {A : Nat → Nat → Int32} (s : SS u h O P o A) : O 9 = o 10 ∧ SS u 0 (upd O 9 (Int32.ofInt 0)) P (upd o 10 (Int32.ofInt 0)) A :=
  ⟨s.2.2.2.1.trans s.2.2.2.2.1.symm, SS_ear hu s rfl rfl (fun _ _ _ => rfl) rfl rfl rfl (fun _ _ => rfl) rfl rfl rfl rfl (fun i hi => absurd hi (Nat.not_lt_zero i))⟩
theorem hear_st {u h n : Nat} (hu : u ≤ 120) {O : Nat → Int32} {P : Nat → Nat → Int32} {o : Nat → Int32} {A : Nat → Nat → Int32} (s : SS u h O P o A) (y : Int32) : SS u (h + n) (upd O 9 (nI (h + n))) (updA P 32 (heL y n (P 32) h)) (upd o 10 (nI (h + n))) (updA A 8 (heL y n (A 8) h)) :=
  SS_ear hu s rfl rfl (fun i h1 h2 => updA_ne _ _ (by omega)) rfl rfl rfl (fun r hr => updA_ne _ _ (by omega)) rfl rfl rfl rfl (fun i hi => by
    rw [updA_self, updA_self]
    exact heL_e y n _ _ h s.2.2.2.2.2.1 i hi)
/-- hear -/
theorem hear_ok {l : Nat} {x y R R' : Int32} {ok ok' : Nat → Prop} {no no' : Prop} (hl : l ≤ 20) (g : heR l x y R ok no) (g' : heR l x y R' ok' no') : R = R' ∧ ((no ∧ no') ∨ ∃ n, l + n ≤ 20 ∧ ok n ∧ ok' n) := by
  rcases g with ⟨r, q, e⟩ | ⟨n, h1, h5, ex, ha, g⟩
  · rcases g' with ⟨r', _, e'⟩ | ⟨n', h1', h5', ex', ha', _⟩
    · exact ⟨r.trans r'.symm, Or.inl ⟨e, e'⟩⟩
    · exact absurd ⟨n', h1', h5', ex', ha'⟩ q
  · rcases g' with ⟨_, q, _⟩ | ⟨n', h1', h5', ex', ha', g'⟩
    · exact absurd ⟨n, h1, h5, ex, ha⟩ q
    · have e : n = n' := (nI_eq (by omega) (by omega)).mp (ex.symm.trans ex')
      subst e
      rcases g with ⟨r, w, e⟩ | ⟨r, w, e⟩
      · rcases g' with ⟨r', _, e'⟩ | ⟨_, w', _⟩
        · exact ⟨r.trans r'.symm, Or.inl ⟨e, e'⟩⟩
        · omega
      · rcases g' with ⟨_, w', _⟩ | ⟨r', _, e'⟩
        · omega
        · exact ⟨r.trans r'.symm, Or.inr ⟨n, w, e, e'⟩⟩
theorem stC_ne1 (P : Nat → Nat → Int32) (u : Nat) (k v x y sh : Int32) {i : Nat} (h : ¬ (1 < i ∧ i ≤ 13)) : stC 1 P u k v x y sh i = P i := stC_o (by omega)
theorem sets_ne6 (A : Nat → Nat → Int32) (u : Nat) (k v x y : Int32) {r : Nat} (h : 6 ≤ r) : setsA A u k v x y r = A r := by
  show updA _ 5 _ r = _
  rw [updA_ne _ _ (by omega), updA_ne _ _ (by omega), updA_ne _ _ (by omega), updA_ne _ _ (by omega), updA_ne _ _ (by omega), updA_ne _ _ (by omega)]
/-- leaf -/
theorem leaf_ok {u h : Nat} (hu : u < 120) {O : Nat → Int32} {P : Nat → Nat → Int32} {o : Nat → Int32} {A : Nat → Nat → Int32} (s : SS u h O P o A) {k v : Int32} (sh : Int32) (g : lfG k v) : SS (u + 1) h (upd O 1 (nI (u + 1))) (stC 1 P u k v m1 m1 sh) (upd o 0 (nI (u + 1))) (setsA A u k v m2 m2) :=
  SS_page s (leaf_NR hu s.2.2.1 g) (fun _ q => stC_ne1 _ _ _ _ _ _ _ q) (fun _ q => sets_ne6 _ _ _ _ _ _ q)
theorem node_ok {u h : Nat} (hu : u < 120) {O : Nat → Int32} {P : Nat → Nat → Int32} {o : Nat → Int32} {A : Nat → Nat → Int32} (s : SS u h O P o A) {k x y : Int32} (sh : Int32) (g : ndG u k x y) : SS (u + 1) h (upd O 1 (nI (u + 1))) (stC 1 P u k (ndv m1 k y) x (ndy m1 k y) sh) (upd o 0 (nI (u + 1))) (setsA A u k (ndv m2 k y) x (ndy m2 k y)) :=
  SS_page s (node_NR hu s.2.2.1 g) (fun _ q => stC_ne1 _ _ _ _ _ _ _ q) (fun _ q => sets_ne6 _ _ _ _ _ _ q)
theorem nd_at {u : Nat} (hu : u ≤ 120) {P A : Nat → Nat → Int32} (n : NR u P A) {x : Int32} (h : isN u x) : P 6 x.toNatClampNeg = A 4 x.toNatClampNeg := by
  obtain ⟨a, ha, e⟩ := isN_n hu h
  have : x.toNatClampNeg = a := by
    show x.toInt.toNat = a
    rw [e, nI_toInt (by omega)]
    omega
  rw [this]
  exact (n a ha).2.2.2.2.1
theorem ndS_same {u : Nat} (hu : u ≤ 120) {P A : Nat → Nat → Int32} (n : NR u P A) {k x y : Int32} (g : ndG u k x y) : ndS (P 6) k x y = ndS (A 4) k x y := by
  unfold ndS
  rw [nd_at hu n g.2.1]
  split
  · rename_i q
    rw [nd_at hu n (g.2.2.1 q)]
  · rfl
theorem ndV_same {u : Nat} (hu : u ≤ 120) {P A : Nat → Nat → Int32} (n : NR u P A) (k x y : Int32) : ndV u (P 6) k x y = ndV u (A 4) k x y := by
  unfold ndV
  split
  · rename_i g
    rw [ndS_same hu n g]
  · rfl
/-- undo -/
theorem undo_same {u h : Nat} {O : Nat → Int32} {P : Nat → Nat → Int32} {o : Nat → Int32} {A : Nat → Nat → Int32} (s : SS u h O P o A) : (O 13 = 1 ∧ P 56 0 = nI (u - 1)) ↔ (o 30 = 1 ∧ A 20 0 = nI (u - 1)) := by
  have e := s.2.2.2.2.2.2.1
  have f := s.2.2.2.2.2.2.2.1
  constructor
  · rintro ⟨a, b⟩
    exact ⟨by rw [← e]; exact a, by rw [← f a]; exact b⟩
  · rintro ⟨a, b⟩
    have a' : O 13 = 1 := by rw [e]; exact a
    exact ⟨a', by rw [f a']; exact b⟩
theorem unV_same {u : Nat} {b b' : Prop} [Decidable b] [Decidable b'] (e : b ↔ b') : unV u b = unV u b' := by
  unfold unV
  by_cases h : b
  · rw [if_pos h, if_pos (e.mp h)]
  · rw [if_neg h, if_neg (fun q => h (e.mpr q))]
/-- walk -/
theorem walk_ok {u h : Nat} (hu : u ≤ 120) {O : Nat → Int32} {P : Nat → Nat → Int32} {o : Nat → Int32} {A : Nat → Nat → Int32} (s : SS u h O P o A) (x : Int32) : SS u h (upd (upd O 13 (Int32.ofInt 1)) 14 (Int32.ofInt 0)) (updA P 56 (upd (P 56) 0 x)) (upd (upd o 30 (Int32.ofInt 1)) 33 (Int32.ofInt 0)) (updA A 20 (upd (A 20) 0 x)) := by
  obtain ⟨s1, s2, s3, s4, s5, s6, s7, s8, s9⟩ := s
  refine ⟨s1, s2, NR_fr hu s3 (fun i h1 h2 _ j _ => by rw [updA_ne _ _ (by omega)]) (fun r hr j hj => by rw [updA_ne _ _ (by omega)]), s4, s5, s6, rfl, fun _ => ?_, kp0_r s9 rfl⟩
  rw [updA_self, updA_self, upd_self, upd_self]
