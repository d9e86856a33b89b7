/-- what a call may change of one shelf -/
def shW (O : Nat → Int32) (P : Nat → Nat → Int32) (s : Nat) (O' : Nat → Int32) (P' : Nat → Nat → Int32) : Prop := (∀ j, ¬ (20 + 10 * s ≤ j ∧ j ≤ 24 + 10 * s) → O' j = O j) ∧ (∀ i, i ≠ 60 + 2 * s → P' i = P i) ∧ (O' (24 + 10 * s) = O (24 + 10 * s) ∨ ∃ m : Nat, m ≤ 60 ∧ O' (24 + 10 * s) = nI m)
set_option maxHeartbeats 1000000 in
set_option maxRecDepth 20000 in
theorem cKeepNode (O : Nat → Int32) (P : Nat → Nat → Int32) (Y : Nat → Nat → Int64) (g : Nat → zC) {u : Nat} (hu0 : u ≤ 120) (h1 : O 1 = nI u) (hp : pgI u (P 2) (P 4) (P 5) (P 6)) {s : Nat} (hs : s < 8) (k n : Int32) : zK 43 zX6_keepNode [.ref 0, .ref (59 + 2 * s), .int k, .int n] (wX O P Y g) (fun r w' => ∃ (O' : Nat → Int32) (P' : Nat → Nat → Int32) (R : Int32), r = some (.int R) ∧ w' = wX O' P' Y g ∧ shW O P s O' P') := by
  refine zK_of qX6_keepNode (by decide +kernel) rfl ?_
  iterate 1 (refine zv_step (bX6_keepNode 43) rfl rfl trivial ?_)
  refine zv_getf (bX6_keepNode 43) rfl (rfl) rfl ?_
  iterate 1 (refine zv_step (bX6_keepNode 43) rfl rfl trivial ?_)
  refine zv_V1 (bX6_keepNode 43) rfl rfl rfl rfl rfl rfl rfl ⟨rfl, rfl, rfl⟩ ⟨by decide, by decide⟩ ⟨Nat.zero_le _, Nat.zero_le _⟩ (pHas1 O P Y g _) ?_
  rintro _ _ ⟨rfl, ⟨hh, rfl⟩ | ⟨hh, rfl⟩⟩
  · iterate 1 (refine zv_step (bX6_keepNode 43) rfl rfl trivial ?_)
    refine zv_ift (by decide) ?_
    have hu : (O 1).toInt ≤ 120 := by rw [h1, nI_toInt (by omega)]; omega
    have hv : vp_in n 120 := vp_in_iff.mpr ⟨hh.1, Int.lt_of_lt_of_le hh.2 hu⟩
    obtain ⟨m, hm, em⟩ : ∃ m : Nat, m ≤ 60 ∧ P 6 n.toNatClampNeg = nI m := by
      obtain ⟨j, hj, rfl⟩ := has_j hu0 h1 hh
      obtain ⟨-, -, -, z, hz, -, z2, -⟩ := hp j hj
      exact ⟨z, by omega, by rw [nI_clamp (by omega)]; exact hz⟩
    iterate 3 (refine zv_step (bX6_keepNode 43) rfl rfl trivial ?_)
    refine zv_ifb (fun h2 => ?_) (fun h2 => ?_)
    · iterate 3 (refine zv_step (bX6_keepNode 43) rfl rfl trivial ?_)
      refine zv_getf (bX6_keepNode 43) rfl (rfl) rfl ?_
      refine zv_getf (bX6_keepNode 43) rfl (rfl) rfl ?_
      iterate 1 (refine zv_step (bX6_keepNode 43) rfl rfl trivial ?_)
      refine zv_step (bX6_keepNode 43) rfl rfl (hv) ?_
      refine zv_V2 (bX6_keepNode 43) rfl rfl rfl (wS O P Y g hs) rfl rfl rfl ⟨rfl, rfl, rfl⟩ ⟨by decide, by decide⟩ ⟨Nat.zero_le _, Nat.zero_le _⟩ (hNoughts O P Y g hs _ _) ?_
      rintro _ _ ⟨rfl, P1, rfl, hP1⟩
      iterate 1 (refine zv_step (bX6_keepNode 43) rfl rfl trivial ?_)
      refine zv_getf (bX6_keepNode 43) rfl (rfl) rfl ?_
      iterate 2 (refine zv_step (bX6_keepNode 43) rfl rfl trivial ?_)
      refine zv_getf (bX6_keepNode 43) rfl (wS (upd (upd O (20 + 10 * s) (Int32.ofInt 4)) (24 + 10 * s) (P 6 n.toNatClampNeg)) P1 Y g hs) rfl ?_
      refine zv_V2 (bX6_keepNode 43) rfl rfl rfl rfl rfl rfl rfl ⟨rfl, rfl, rfl⟩ ⟨by decide, by decide⟩ ⟨Nat.zero_le _, Nat.zero_le _⟩ (pLay (upd (upd O (20 + 10 * s) (Int32.ofInt 4)) (24 + 10 * s) (P 6 n.toNatClampNeg)) P1 Y g (by rw [upd_ne _ _ (by omega), upd_ne _ _ (by omega)]; exact hu) hs _) ?_
      rintro _ _ ⟨rfl, P2, rfl, hP2⟩
      iterate 1 (refine zv_step (bX6_keepNode 43) rfl rfl trivial ?_)
      exact zv_iret (bX6_keepNode 43) rfl (Or.inl rfl) (Nat.zero_le _) (Nat.zero_le _) ⟨(upd (upd O (20 + 10 * s) (Int32.ofInt 4)) (24 + 10 * s) (P 6 n.toNatClampNeg)), P2, _, rfl, rfl, fun j hj => by rw [upd_ne _ _ (by omega), upd_ne _ _ (by omega)], fun i hi => (hP2 i hi).trans (hP1 i hi), Or.inr ⟨m, hm, by rw [upd_self]; exact em⟩⟩
    · iterate 2 (refine zv_step (bX6_keepNode 43) rfl rfl trivial ?_)
      refine zv_getf (bX6_keepNode 43) rfl (rfl) rfl ?_
      refine zv_getf (bX6_keepNode 43) rfl (rfl) rfl ?_
      iterate 1 (refine zv_step (bX6_keepNode 43) rfl rfl trivial ?_)
      refine zv_step (bX6_keepNode 43) rfl rfl (hv) ?_
      iterate 1 (refine zv_step (bX6_keepNode 43) rfl rfl trivial ?_)
      refine zv_getf (bX6_keepNode 43) rfl (rfl) rfl ?_
      refine zv_getf (bX6_keepNode 43) rfl (rfl) rfl ?_
      iterate 1 (refine zv_step (bX6_keepNode 43) rfl rfl trivial ?_)
      refine zv_step (bX6_keepNode 43) rfl rfl (hv) ?_
      iterate 1 (refine zv_step (bX6_keepNode 43) rfl rfl trivial ?_)
      refine zv_getf (bX6_keepNode 43) rfl (rfl) rfl ?_
      refine zv_getf (bX6_keepNode 43) rfl (rfl) rfl ?_
      iterate 1 (refine zv_step (bX6_keepNode 43) rfl rfl trivial ?_)
      refine zv_step (bX6_keepNode 43) rfl rfl (hv) ?_
      refine zv_V3 (bX6_keepNode 43) rfl rfl rfl (wS O P Y g hs) rfl rfl rfl ⟨rfl, rfl, rfl⟩ ⟨by decide, by decide⟩ ⟨Nat.zero_le _, Nat.zero_le _⟩ (hHoldNode O P Y g hs _ _ _) ?_
      rintro _ _ ⟨rfl, rfl⟩
      iterate 2 (refine zv_step (bX6_keepNode 43) rfl rfl trivial ?_)
      exact zv_iret (bX6_keepNode 43) rfl (Or.inl rfl) (Nat.zero_le _) (Nat.zero_le _) ⟨_, P, _, rfl, rfl, fun j hj => by rw [upd_ne _ _ (by omega), upd_ne _ _ (by omega), upd_ne _ _ (by omega), upd_ne _ _ (by omega)], fun _ _ => rfl, Or.inl (by rw [upd_ne _ _ (by omega), upd_ne _ _ (by omega), upd_ne _ _ (by omega), upd_ne _ _ (by omega)])⟩
  · iterate 1 (refine zv_step (bX6_keepNode 43) rfl rfl trivial ?_)
    refine zv_iff (by decide) ?_
    iterate 1 (refine zv_step (bX6_keepNode 43) rfl rfl trivial ?_)
    exact zv_iret (bX6_keepNode 43) rfl (Or.inl rfl) (Nat.zero_le _) (Nat.zero_le _) ⟨O, P, _, rfl, rfl, fun _ _ => rfl, fun _ _ => rfl, Or.inl rfl⟩
