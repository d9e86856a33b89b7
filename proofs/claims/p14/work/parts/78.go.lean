def rtN (t d : Nat) (N : Nat → Int32) : Prop := N 0 = nI t ∧ ∀ i, i ≤ d → ∃ j, j ≤ t ∧ N i = nI j
theorem pt_lt {u : Nat} (hu : u ≤ 120) {P : Nat → Nat → Int32} (hp : pgI u (P 2) (P 4) (P 5) (P 6)) {j : Nat} (hj : j < u) (dg : Int32) : ptW (nI u) (P 4) (P 5) (nI j) dg = Int32.ofInt (-1) ∨ ∃ i, i < j ∧ ptW (nI u) (P 4) (P 5) (nI j) dg = nI i := by
  have e : nC (nI j) = j := nI_clamp (by omega)
  obtain ⟨_, h1, h2, _⟩ := hp j hj
  unfold ptW
  rw [e]
  split
  · split
    · exact h1
    · split
      · exact h2
      · exact Or.inl rfl
  · exact Or.inl rfl
theorem rt_up {t d d' : Nat} {N : Nat → Int32} (h : rtN t d N) (hd : d' ≤ d) : rtN t d' N := ⟨h.1, fun i hi => h.2 i (by omega)⟩
theorem rt_set {t d e : Nat} {N : Nat → Int32} {x : Int32} (h : rtN t d N) (he : e ≤ d + 1) (he0 : 1 ≤ e) (hx : ∃ j, j ≤ t ∧ x = nI j) : rtN t e (upd N e x) := by
  refine ⟨(upd_ne _ _ (by omega)).trans h.1, fun i hi => ?_⟩
  by_cases c : i = e
  · subst c
    obtain ⟨j, hj, rfl⟩ := hx
    exact ⟨j, hj, upd_self _ _ _⟩
  · obtain ⟨j, hj, e2⟩ := h.2 i (by omega)
    exact ⟨j, hj, (upd_ne _ _ c).trans e2⟩
theorem pt_ok {u t : Nat} (hu : u ≤ 120) {P : Nat → Nat → Int32} (hp : pgI u (P 2) (P 4) (P 5) (P 6)) {d i : Nat} {N : Nat → Int32} (h : rtN t d N) (ht : t < u) (hi : i ≤ d) {dg : Int32} (hn : ¬ ptW (nI u) (P 4) (P 5) (N i) dg = Int32.ofInt (-1)) : ∃ j, j ≤ t ∧ ptW (nI u) (P 4) (P 5) (N i) dg = nI j := by
  obtain ⟨j, hj, e⟩ := h.2 i hi
  rw [e] at hn ⊢
  obtain ⟨i2, h2, e2⟩ := (pt_lt hu hp (by omega) dg).resolve_left hn
  exact ⟨i2, by omega, e2⟩
theorem rt_sd {u t : Nat} (hu : u ≤ 120) {P : Nat → Nat → Int32} (hp : pgI u (P 2) (P 4) (P 5) (P 6)) {s : Nat × (Nat → Int32) × (Nat → Int32)} (dg : Int32) (ht : t < u) (h : rtN t s.1 s.2.1) : rtN t (sdW (nI u) (P 4) (P 5) dg s).1 (sdW (nI u) (P 4) (P 5) dg s).2.1 := by
  unfold sdW
  split
  · exact h
  · rename_i q
    exact rt_set h (Nat.le_refl _) (by omega) (pt_ok hu hp h ht (Nat.le_refl _) (fun e => q (Or.inl e)))
theorem rt_fo {u t : Nat} (hu : u ≤ 120) {P : Nat → Nat → Int32} (hp : pgI u (P 2) (P 4) (P 5) (P 6)) (ht : t < u) : ∀ (c : Nat) (r : Int32) (s : Nat × (Nat → Int32) × (Nat → Int32)), s.1 < 40 → (foW (nI u) (P 4) (P 5) c r s).1 < 40 ∧ (rtN t s.1 s.2.1 → rtN t (foW (nI u) (P 4) (P 5) c r s).1 (foW (nI u) (P 4) (P 5) c r s).2.1)
  | 0, r, s, hs => ⟨hs, id⟩
  | c + 1, r, s, hs => by
    rw [foW_s]
    split
    · exact ⟨hs, id⟩
    · obtain ⟨a, b⟩ := rt_fo hu hp ht c (r / Int32.ofInt 3) (sdW (nI u) (P 4) (P 5) (r - r / Int32.ofInt 3 * Int32.ofInt 3) s) (sdW_le hs)
      exact ⟨a, fun h => b (rt_sd hu hp _ ht h)⟩
theorem updA_same (A : Nat → Nat → Int32) (k : Nat) : updA A k (A k) = A := by
  funext j
  by_cases e : j = k
  · subst e
    exact updA_self _ _ _
  · exact updA_ne _ _ e
theorem wX_rt {O : Nat → Int32} (P : Nat → Nat → Int32) (Y : Nat → Nat → Int64) (g : Nat → zC) {d : Nat} (h : O 14 = nI d) : wX O P Y g = wX (upd O 14 (nI d)) (updA (updA P 56 (P 56)) 57 (P 57)) Y g := by
  rw [upd_same h, updA_same P 56, updA_same P 57]
theorem foW_le {u : Int32} {Xs Ys : Nat → Int32} : ∀ (c : Nat) (r : Int32) (s : Nat × (Nat → Int32) × (Nat → Int32)), s.1 < 40 → (foW u Xs Ys c r s).1 < 40
  | 0, r, s, hs => hs
  | c + 1, r, s, hs => by
    rw [foW_s]
    split
    · exact hs
    · exact foW_le c _ _ (sdW_le hs)
set_option maxHeartbeats 1000000 in
set_option maxRecDepth 20000 in
theorem wHereG (O : Nat → Int32) (P : Nat → Nat → Int32) (Y : Nat → Nat → Int64) (g : Nat → zC) {dd : Nat} (hd : dd < 40) (h14 : O 14 = nI dd) : zK 0 zX5_here [.ref 55] (wX O P Y g) (fun r w' => w' = wX O P Y g ∧ r = some (.int (P 56 dd))) := by
  refine zK_of qX5_here (by decide +kernel) rfl ?_
  iterate 4 (refine zv_step (bX5_here 0) rfl rfl trivial ?_)
  refine zv_iale (bX5_here 0) rfl rfl (show vp_in (O 14) 40 by rw [h14]; exact vp_in_nI hd (by decide)) (show P 56 (O 14).toNatClampNeg = P 56 dd by rw [h14, nI_clamp (by omega)]) ?_
  exact zv_iret (bX5_here 0) rfl (Or.inl rfl) (Nat.zero_le _) (Nat.zero_le _) ⟨rfl, rfl⟩
