theorem okN_P {a k : Nat} {v : Int32} {x y z : Nat} (h : okN a (k, v, x, y, z) = true) : k < 10 ∧ (2 ≤ k → x < a) ∧ (2 ≤ k → k ≤ 6 → y < a) ∧ (k = 1 → v = 1) := by
  simp only [okN, Bool.and_eq_true, Bool.or_eq_true, Bool.not_eq_true', Nat.blt_eq, beq_iff_eq] at h
  obtain ⟨⟨⟨h1, h2⟩, h3⟩, h4⟩ := h
  refine ⟨h1, fun q => by omega, fun q q' => by omega, fun q => ?_⟩
  subst q
  rcases h4 with h4 | h4
  · cases h4
  · exact h4
set_option maxHeartbeats 1000000 in
set_option maxRecDepth 20000 in
theorem sayCore (f : Nat → zC) (o : Nat → Int32) (A : Nat → Nat → Int32) (J : Nat → Nat → Int64) {b a s : Nat} {c : Int32} {n0 : Nat} (hn : b + a < 450) {k : Nat} {v : Int32} {x y : Nat} {Ws : Nat → List Int32} (hk : k < 10) (h0 : A 0 (b + a) = nI k) (h1 : A 1 (b + a) = v) (h2 : 2 ≤ k → A 2 (b + a) = nI (b + x)) (h3 : 2 ≤ k → k ≤ 6 → A 3 (b + a) = nI (b + y)) (hx : 2 ≤ k → x < a) (hy : 2 ≤ k → k ≤ 6 → y < a) (hv : k = 1 → v = 1)
    (ih : ∀ j, j < a → ∀ (q : Nat) (g : Nat → Int32), q + (Ws j).length ≤ 256 → zK (j + 2) zX7_say [.ref 76, .int (nI s), .int (nI (b + j))] (wS f o A J q g) (fun r w' => r = none ∧ w' = wS f o A J (q + (Ws j).length) (appA g q (Ws j)))) {q : Nat} {g : Nat → Int32} (hq : q + (coreW Ws k v x y).length ≤ 256) {Q : Option Value → zW → Prop}
    (kk : zV (zMo (a + 2) zX7_say) false n0 0 0 270 [(3, .int c), (0, .ref 76), (1, .int (nI s)), (2, .int (nI (b + a)))] [] (wS f o A J (q + (coreW Ws k v x y).length) (appA g q (coreW Ws k v x y))) Q) : zV (zMo (a + 2) zX7_say) false n0 0 0 17 [(3, .int c), (0, .ref 76), (1, .int (nI s)), (2, .int (nI (b + a)))] [] (wS f o A J q g) Q := by
  have hk' : k = 0 ∨ k = 1 ∨ k = 2 ∨ k = 3 ∨ k = 4 ∨ k = 5 ∨ k = 6 ∨ k = 7 ∨ k = 8 ∨ k = 9 := by omega
  rcases hk' with rfl | rfl | rfl | rfl | rfl | rfl | rfl | rfl | rfl | rfl
  · exact sayLetter f o A J hn h0 h1 hq kk
  · have hv' := hv rfl
    subst hv'
    exact sayOne f o A J hn h0 (by assumption) hq (zv_locals (fun q hq => List.mem_cons_of_mem _ (List.mem_cons_of_mem _ hq)) kk)
  · exact sayPair f o A J hn (by omega) h0 (h2 (by omega)) (h3 (by omega) (by omega)) (hx (by omega)) (hy (by omega) (by omega)) (ih x (hx (by omega))) (ih y (hy (by omega) (by omega))) hq kk
  · exact sayPair f o A J hn (by omega) h0 (h2 (by omega)) (h3 (by omega) (by omega)) (hx (by omega)) (hy (by omega) (by omega)) (ih x (hx (by omega))) (ih y (hy (by omega) (by omega))) hq kk
  · exact sayPair f o A J hn (by omega) h0 (h2 (by omega)) (h3 (by omega) (by omega)) (hx (by omega)) (hy (by omega) (by omega)) (ih x (hx (by omega))) (ih y (hy (by omega) (by omega))) hq kk
  · exact sayPair f o A J hn (by omega) h0 (h2 (by omega)) (h3 (by omega) (by omega)) (hx (by omega)) (hy (by omega) (by omega)) (ih x (hx (by omega))) (ih y (hy (by omega) (by omega))) hq kk
  · exact sayPair f o A J hn (by omega) h0 (h2 (by omega)) (h3 (by omega) (by omega)) (hx (by omega)) (hy (by omega) (by omega)) (ih x (hx (by omega))) (ih y (hy (by omega) (by omega))) hq kk
  · exact sayRoot f o A J hn h0 (h2 (by omega)) (hx (by omega)) (ih x (hx (by omega))) hq kk
  · exact sayFenced f o A J hn h0 (h2 (by omega)) (hx (by omega)) (ih x (hx (by omega))) hq kk
  · exact sayCall f o A J hn h0 h1 (h2 (by omega)) (hx (by omega)) (ih x (hx (by omega))) hq kk
set_option maxHeartbeats 1000000 in
set_option maxRecDepth 20000 in
theorem mSay (f : Nat → zC) (o : Nat → Int32) (A : Nat → Nat → Int32) (J : Nat → Nat → Int64) {b : Nat} {T : List zNd} {kp : Nat → Bool} {Ws : Nat → List Int32} {s : Nat} (hb : b + T.length ≤ 450) (hT : repT b T A) (hok : ∀ a e, T[a]? = some e → okN a e = true) (hs : s < 8) (hk : ∀ k, k < 10 → A 7 (10 * s + k) = if kp k then 1 else 0) (hm : o 19 < 0) (hW : ∀ a e, T[a]? = some e → Ws a = wordsW kp Ws e) : ∀ N a, a < N → a < T.length → ∀ (q : Nat) (g : Nat → Int32), q + (Ws a).length ≤ 256 → zK (a + 2) zX7_say [.ref 76, .int (nI s), .int (nI (b + a))] (wS f o A J q g) (fun r w' => r = none ∧ w' = wS f o A J (q + (Ws a).length) (appA g q (Ws a))) := by
  intro N
  induction N with
  | zero => intro a h; omega
  | succ N ih =>
    intro a haN ha q g hq
    obtain ⟨⟨k, v, x, y, z⟩, he⟩ : ∃ e, T[a]? = some e := ⟨T[a], List.getElem?_eq_getElem ha⟩
    obtain ⟨hk10, ox, oy, ov⟩ := okN_P (hok a _ he)
    obtain ⟨h0, h1, h2, h3, h4⟩ := hT a k v x y z he
    have hw : Ws a = _ := hW a _ he
    have hn : b + a < 450 := by omega
    have hc : A 7 (10 * s + k) = (if kp k then 1 else 0) := hk k hk10
    refine zK_of qX7_say (by decide +kernel) rfl ?_
    iterate 3 (refine zv_step (bX7_say (a + 2)) rfl rfl trivial ?_)
    refine zv_V2 (bX7_say (a + 2)) rfl rfl rfl rfl rfl rfl rfl ⟨rfl, rfl, rfl⟩ ⟨Nat.le_add_left 1 _, by show 8 + (3 + 11) + 64 * 0 ≤ 64 * (a + 2); omega⟩ ⟨Nat.zero_le _, Nat.zero_le _⟩ (mKeepsIt f o A J q g hm hs hn hk10 h0 hc (by cases kp k <;> simp)) ?_
    rintro _ _ ⟨rfl, rfl⟩
    iterate 3 (refine zv_step (bX7_say (a + 2)) rfl rfl trivial ?_)
    cases hkp : kp k with
    | true =>
      have hw' : Ws a = c8 29 :: (coreW Ws k v x y ++ [c8 30]) := by rw [hw]; simp only [wordsW, hkp, if_true]
      have hl : (Ws a).length = (coreW Ws k v x y).length + 2 := by rw [hw']; simp only [List.length_cons, List.length_append, List.length_nil]
      refine zv_iff (by decide) ?_
      iterate 2 (refine zv_step (bX7_say (a + 2)) rfl rfl trivial ?_)
      refine zv_V1 (bX7_say (a + 2)) rfl rfl rfl rfl rfl rfl rfl ⟨rfl, rfl, rfl⟩ ⟨Nat.le_add_left 1 _, by show 8 + (2 + 11) + 64 * 0 ≤ 64 * (a + 2); omega⟩ ⟨Nat.zero_le _, Nat.zero_le _⟩ (mSays f o A J _ _ (by omega) _) ?_
      rintro _ _ ⟨rfl, rfl⟩
      show zV _ _ _ _ _ 17 [(3, .int 1), (0, .ref 76), (1, .int (nI s)), (2, .int (nI (b + a)))] [] (wS f o A J (q + 1) (upd g q (c8 29))) _
      refine sayCore f o A J hn hk10 h0 h1 h2 h3 ox oy ov (fun j hj => ih j (by omega) (by omega)) (by omega) ?_
      iterate 2 (refine zv_step (bX7_say (a + 2)) rfl rfl trivial ?_)
      refine zv_iff (by decide) ?_
      iterate 2 (refine zv_step (bX7_say (a + 2)) rfl rfl trivial ?_)
      refine zv_V1 (bX7_say (a + 2)) rfl rfl rfl rfl rfl rfl rfl ⟨rfl, rfl, rfl⟩ ⟨Nat.le_add_left 1 _, by show 8 + (2 + 11) + 64 * 0 ≤ 64 * (a + 2); omega⟩ ⟨Nat.zero_le _, Nat.zero_le _⟩ (mSays f o A J _ _ (by omega) _) ?_
      rintro _ _ ⟨rfl, rfl⟩
      refine zv_ret (bX7_say (a + 2)) rfl rfl (Nat.zero_le _) (Nat.zero_le _) ⟨rfl, ?_⟩
      rw [hl, hw', show q + ((coreW Ws k v x y).length + 2) = q + 1 + (coreW Ws k v x y).length + 1 by omega]
      show _ = wS f o A J _ (appA (upd g q (c8 29)) (q + 1) (coreW Ws k v x y ++ [c8 30]))
      rw [appA_app]
      rfl
    | false =>
      have hw' : Ws a = coreW Ws k v x y := by rw [hw]; simp [wordsW, hkp]
      rw [hw'] at hq ⊢
      refine zv_ift (by decide) ?_
      show zV _ _ _ _ _ 17 [(3, .int 0), (0, .ref 76), (1, .int (nI s)), (2, .int (nI (b + a)))] [] (wS f o A J q g) _
      refine sayCore f o A J hn hk10 h0 h1 h2 h3 ox oy ov (fun j hj => ih j (by omega) (by omega)) hq ?_
      iterate 2 (refine zv_step (bX7_say (a + 2)) rfl rfl trivial ?_)
      refine zv_ift (by decide) ?_
      exact zv_ret (bX7_say (a + 2)) rfl rfl (Nat.zero_le _) (Nat.zero_le _) ⟨rfl, rfl⟩
set_option maxHeartbeats 1000000 in
set_option maxRecDepth 20000 in
theorem mSayAll (f : Nat → zC) (o : Nat → Int32) (A : Nat → Nat → Int32) (J : Nat → Nat → Int64) {b : Nat} {T : List zNd} {kp : Nat → Bool} {Ws : Nat → List Int32} {s : Nat} (hb : b + T.length ≤ 450) (hT : repT b T A) (hok : ∀ a e, T[a]? = some e → okN a e = true) (hs : s < 8) (hk : ∀ k, k < 10 → A 7 (10 * s + k) = if kp k then 1 else 0) (hW : ∀ a e, T[a]? = some e → Ws a = wordsW kp Ws e) {a : Nat} (ha : a < T.length) (hl : (Ws a).length ≤ 256) : zK (a + 3) zX7_sayAll [.ref 76, .int (nI s), .int (nI (b + a))] (wR f o A J) (fun r w' => r = none ∧ w' = wS f (upd o 19 (Int32.ofInt (-1))) A J (Ws a).length (appA (A 14) 0 (Ws a))) := by
  refine zK_of qX7_sayAll (by decide +kernel) rfl ?_
  iterate 9 (refine zv_step (bX7_sayAll (a + 3)) rfl rfl trivial ?_)
  show zV _ _ _ _ _ 13 _ [.int (nI (b + a)), .int (nI s), .ref 76] (wS f (upd o 19 (Int32.ofInt (-1))) A J 0 (A 14)) _
  refine zv_V2 (bX7_sayAll (a + 3)) rfl rfl rfl rfl rfl rfl rfl ⟨rfl, rfl, rfl⟩ ⟨by show a + 2 + 1 ≤ a + 3; omega, by show 8 + (6 + 11) + 64 * (a + 2) ≤ 64 * (a + 3); omega⟩ ⟨Nat.zero_le _, Nat.zero_le _⟩ (mSay f (upd o 19 (Int32.ofInt (-1))) A J hb hT hok hs hk (show Int32.ofInt (-1) < 0 by decide) hW (a + 1) a (by omega) ha 0 (A 14) (by omega)) ?_
  rintro _ _ ⟨rfl, rfl⟩
  exact zv_ret (bX7_sayAll (a + 3)) rfl rfl (Nat.zero_le _) (Nat.zero_le _) ⟨rfl, by rw [Nat.zero_add]⟩
theorem e120 : c8 120 = nI 120 := by decide +kernel
set_option maxHeartbeats 1000000 in
set_option maxRecDepth 20000 in
theorem mAdds (f : Nat → zC) (o : Nat → Int32) (A : Nat → Nat → Int32) (J : Nat → Nat → Int64) {n : Nat} {k v x y : Int32} (ho : o 23 = nI n) (hn : 120 + n < 450) (hx : 0 ≤ x → vp_in x 450) (hy : 0 ≤ y → vp_in y 450) : zK 1 zX7_adds [.ref 76, .int k, .int v, .int x, .int y] (wR f o A J) (fun r w' => r = none ∧ w' = wR f (upd o 23 (nI (n + 1))) (setsA A (120 + n) k v x y) J) := by
  have e1 : c8 120 + o 23 = nI (120 + n) := by rw [ho, e120, nI_add]
  have e2 : (c8 120 + o 23).toNatClampNeg = 120 + n := by rw [e1]; exact nI_clamp (by omega)
  have e3 : o 23 + Int32.ofInt 1 = nI (n + 1) := by rw [ho]; exact nI_1 n
  refine zK_of qX7_adds (by decide +kernel) rfl ?_
  iterate 9 (refine zv_step (bX7_adds 1) rfl rfl trivial ?_)
  refine zv_V5 (bX7_adds 1) rfl rfl rfl rfl rfl rfl rfl ⟨rfl, rfl, rfl⟩ ⟨by decide, by decide⟩ ⟨Nat.zero_le _, Nat.zero_le _⟩ (mSets f o A J (n := c8 120 + o 23) (by rw [e1]; exact vp_in_nI hn (by decide)) hx hy) ?_
  rintro _ _ ⟨rfl, rfl⟩
  iterate 6 (refine zv_step (bX7_adds 1) rfl rfl trivial ?_)
  refine zv_ret (bX7_adds 1) rfl rfl (Nat.zero_le _) (Nat.zero_le _) ⟨rfl, ?_⟩
  show wR f (upd o 23 (o 23 + Int32.ofInt 1)) (setsA A (c8 120 + o 23).toNatClampNeg k v x y) J = _
  rw [e2, e3]
