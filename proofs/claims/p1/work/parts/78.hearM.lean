/-- the reference's object, with so many words heard -/
abbrev mO (hd : Int32) : zC := zO 6 [.int 0, .ref 77, .ref 78, .ref 79, .ref 80, .ref 81, .ref 82, .ref 83, .ref 84, .ref 85, .int hd, .ref 86, .ref 87, .ref 88, .ref 89, .ref 90, .int 0, .ref 91, .int 0, .int (-1), .int 0, .int 0, .ref 92, .int 0, .ref 93, .ref 94, .ref 95, .ref 96, .int 0, .int 0, .int 0, .ref 97, .ref 98, .int 0, .int 0]
set_option maxHeartbeats 4000000 in
set_option maxRecDepth 20000 in
theorem hearM2 (m : Nat) (h1 : 1 ≤ m) (h5 : m ≤ 5) {p1 p2 : Int32} (e1 : p1 = nI m) (hg : ∀ k, k < m → ¬ bad p2 k) : ∀ (c q : Nat), q + c + 1 = m → ∀ {x len : Int32} {w : zW} {g : Nat → Int32} {n0 : Nat}, x = nI c → len = nI q → w[76]? = some (mO len) → w[85]? = some (zI 0 20 g) → zV (zMo 3 zX7_hear) false n0 0 0 60 [(3, .int x), (0, .ref 76), (1, .int p1), (2, .int p2)] [] w (fun r w' => ∃ a, r = some (.int a) ∧ R_hear p1 p2 a) := by
  intro c
  induction c with
  | zero =>
    intro q hq x len w g n0 hx hl ho hr
    iterate 2 (refine zv_step (bX7_hear 3) rfl rfl trivial ?_)
    refine zv_iff (by rw [hx]; exact nI_pos (by omega)) ?_
    iterate 1 (refine zv_step (bX7_hear 3) rfl rfl trivial ?_)
    refine zv_getf (bX7_hear 3) rfl ho rfl ?_
    iterate 1 (refine zv_step (bX7_hear 3) rfl rfl trivial ?_)
    refine zv_getf (bX7_hear 3) rfl ho rfl ?_
    iterate 7 (refine zv_step (bX7_hear 3) rfl rfl trivial ?_)
    refine zv_iast (bX7_hear 3) rfl hr (by rw [hl]; exact vp_in_nI (by omega) (by decide)) ?_
    iterate 2 (refine zv_step (bX7_hear 3) rfl rfl trivial ?_)
    refine zv_getf (bX7_hear 3) rfl ((List.getElem?_set_ne (by decide)).trans ho) rfl ?_
    iterate 2 (refine zv_step (bX7_hear 3) rfl rfl trivial ?_)
    refine zv_putf (bX7_hear 3) rfl ((List.getElem?_set_ne (by decide)).trans ho) rfl rfl ?_
    iterate 2 (refine zv_step (bX7_hear 3) rfl rfl trivial ?_)
    iterate 2 (refine zv_step (bX7_hear 3) rfl rfl trivial ?_)
    refine zv_ift (by rw [hx]; decide) ?_
    iterate 1 (refine zv_step (bX7_hear 3) rfl rfl trivial ?_)
    refine zv_getf (bX7_hear 3) rfl (zset_self ((List.getElem?_set_ne (by decide)).trans ho)) rfl ?_
    exact zv_iret (bX7_hear 3) rfl (Or.inl rfl) (Nat.zero_le _) (Nat.zero_le _) ⟨_, rfl, Or.inr (Or.inr ⟨m, h1, h5, e1, hg, by rw [hl]; exact (nI_1 q).trans (by rw [show q + 1 = m by omega])⟩)⟩
  | succ c ih =>
    intro q hq x len w g n0 hx hl ho hr
    iterate 2 (refine zv_step (bX7_hear 3) rfl rfl trivial ?_)
    refine zv_iff (by rw [hx]; exact nI_pos (by omega)) ?_
    iterate 1 (refine zv_step (bX7_hear 3) rfl rfl trivial ?_)
    refine zv_getf (bX7_hear 3) rfl ho rfl ?_
    iterate 1 (refine zv_step (bX7_hear 3) rfl rfl trivial ?_)
    refine zv_getf (bX7_hear 3) rfl ho rfl ?_
    iterate 7 (refine zv_step (bX7_hear 3) rfl rfl trivial ?_)
    refine zv_iast (bX7_hear 3) rfl hr (by rw [hl]; exact vp_in_nI (by omega) (by decide)) ?_
    iterate 2 (refine zv_step (bX7_hear 3) rfl rfl trivial ?_)
    refine zv_getf (bX7_hear 3) rfl ((List.getElem?_set_ne (by decide)).trans ho) rfl ?_
    iterate 2 (refine zv_step (bX7_hear 3) rfl rfl trivial ?_)
    refine zv_putf (bX7_hear 3) rfl ((List.getElem?_set_ne (by decide)).trans ho) rfl rfl ?_
    iterate 2 (refine zv_step (bX7_hear 3) rfl rfl trivial ?_)
    exact ih (q + 1) (by omega) (by rw [hx]; exact pk_m1 c) (by rw [hl]; exact nI_1 q) (zset_self ((List.getElem?_set_ne (by decide)).trans ho)) ((List.getElem?_set_ne (by decide)).trans (zset_self hr))
set_option maxHeartbeats 4000000 in
set_option maxRecDepth 20000 in
theorem hearM1 (f : Nat → zC) (m : Nat) (h1 : 1 ≤ m) (h5 : m ≤ 5) {p1 p2 : Int32} (e1 : p1 = nI m) : ∀ (c i : Nat), i + c = m → (∀ k, k < i → ¬ bad p2 k) → ∀ {x : Int32} {n0 : Nat}, x = nI i → zV (zMo 3 zX7_hear) false n0 0 0 16 [(3, .int x), (0, .ref 76), (1, .int p1), (2, .int p2)] [] (wM f) (fun r w' => ∃ a, r = some (.int a) ∧ R_hear p1 p2 a) := by
  intro c
  induction c with
  | zero =>
    intro i hi hg x n0 hx
    iterate 3 (refine zv_step (bX7_hear 3) rfl rfl trivial ?_)
    refine zv_ift (by rw [hx, e1]; exact nI_le (by omega) (by omega)) ?_
    iterate 6 (refine zv_step (bX7_hear 3) rfl rfl trivial ?_)
    refine zv_ift (by rw [e1]; exact (show ∀ m, m ≤ 5 → (0 : Int32) + nI m ≤ (Int8.ofInt 20).toInt32 by decide +kernel) m h5) ?_
    iterate 4 (refine zv_step (bX7_hear 3) rfl rfl trivial ?_)
    refine hearM2 m h1 h5 e1 (fun k hk => hg k (by omega)) (m - 1) 0 (by omega) (by rw [e1]; exact (show ∀ m, 1 ≤ m → m ≤ 5 → nI m - Int32.ofInt 1 = nI (m - 1) by intro m a b; match m, a, b with | 1, _, _ => decide | 2, _, _ => decide | 3, _, _ => decide | 4, _, _ => decide | 5, _, _ => decide) m h1 h5) rfl rfl rfl
  | succ c ih =>
    intro i hi hg x n0 hx
    iterate 3 (refine zv_step (bX7_hear 3) rfl rfl trivial ?_)
    refine zv_iff (by rw [hx, e1]; exact nI_ge (by omega) (by omega)) ?_
    iterate 9 (refine zv_step (bX7_hear 3) rfl rfl trivial ?_)
    refine zv_ifb (fun hc => ?_) (fun hc => ?_)
    · iterate 2 (refine zv_step (bX7_hear 3) rfl rfl trivial ?_)
      refine ih (i + 1) (by omega) (fun k hk => ?_) (by rw [hx]; exact nI_1 i)
      by_cases hk2 : k < i
      · exact hg k hk2
      · have : k = i := by omega
        subst this
        unfold bad
        rw [← hx]
        exact hc
    · iterate 1 (refine zv_step (bX7_hear 3) rfl rfl trivial ?_)
      exact zv_iret (bX7_hear 3) rfl (Or.inl rfl) (Nat.zero_le _) (Nat.zero_le _) ⟨_, rfl, Or.inr (Or.inl ⟨m, h1, h5, e1, ⟨i, by omega, by unfold bad; rw [← hx]; exact Decidable.not_not.mp hc⟩, rfl⟩)⟩
theorem in15 (x : Int32) : (Int64.ofNat ((1 : Fin 2) : Nat)).toInt ≤ x.toInt64.toInt ∧ x.toInt64.toInt ≤ (Int64.ofInt 5).toInt ↔ 1 ≤ x.toInt ∧ x.toInt ≤ 5 := by
  rw [l1c, Int32.toInt_toInt64, i64c 5 (by decide)]
set_option maxHeartbeats 4000000 in
set_option maxRecDepth 20000 in
theorem cM_hear (p1 p2 : Int32) {w : zW} (h : ∀ j, 76 ≤ j → w[j]? = w0[j]?) : zK 3 zX7_hear [.ref 76, .int p1, .int p2] w (fun r w' => ∃ a, r = some (.int a) ∧ R_hear p1 p2 a) := by
  obtain ⟨f, rfl⟩ := wM_of h
  clear h
  refine zK_of qX7_hear (by decide +kernel) rfl ?_
  iterate 4 (refine zv_step (bX7_hear 3) rfl rfl trivial ?_)
  refine zv_S3 (bX7_hear 3) rfl rfl rfl rfl ⟨rfl, rfl, rfl⟩ ⟨by decide, by decide⟩ ⟨Nat.zero_le _, Nat.zero_le _⟩ (hX7_in _ _ _ _) ?_
  rintro _ _ ⟨rfl, ⟨hh, rfl⟩ | ⟨hh, rfl⟩⟩
  · rw [in15] at hh
    obtain ⟨m, h1, h5, e1⟩ := nIof5 hh
    iterate 1 (refine zv_step (bX7_hear 3) rfl rfl trivial ?_)
    refine zv_ift (by decide) ?_
    iterate 2 (refine zv_step (bX7_hear 3) rfl rfl trivial ?_)
    exact hearM1 f m h1 h5 e1 m 0 (by omega) (fun k hk => absurd hk (by omega)) rfl
  · rw [in15] at hh
    iterate 1 (refine zv_step (bX7_hear 3) rfl rfl trivial ?_)
    refine zv_iff (by decide) ?_
    iterate 1 (refine zv_step (bX7_hear 3) rfl rfl trivial ?_)
    exact zv_iret (bX7_hear 3) rfl (Or.inl rfl) (Nat.zero_le _) (Nat.zero_le _) ⟨_, rfl, Or.inl ⟨hh, rfl⟩⟩
