noncomputable def foW (u : Int32) (Xs Ys : Nat → Int32) : Nat → Int32 → Nat × (Nat → Int32) × (Nat → Int32) → Nat × (Nat → Int32) × (Nat → Int32)
  | 0, _, s => s
  | c + 1, r, s => if r ≤ 0 then s else foW u Xs Ys c (r / Int32.ofInt 3) (sdW u Xs Ys (r - r / Int32.ofInt 3 * Int32.ofInt 3) s)
theorem foW_s (u : Int32) (Xs Ys : Nat → Int32) (c : Nat) (r : Int32) (s : Nat × (Nat → Int32) × (Nat → Int32)) : foW u Xs Ys (c + 1) r s = (if r ≤ 0 then s else foW u Xs Ys c (r / Int32.ofInt 3) (sdW u Xs Ys (r - r / Int32.ofInt 3 * Int32.ofInt 3) s)) := rfl
set_option maxHeartbeats 1000000 in
set_option maxRecDepth 20000 in
theorem wFollowL (O : Nat → Int32) (P : Nat → Nat → Int32) (Y : Nat → Nat → Int64) (g : Nat → zC) (hu : (O 1).toInt ≤ 120) (p : Int32) {n0 : Nat} {Q : Option Value → zW → Prop} : ∀ (c d : Nat), d + c = 20 → ∀ {x4 r : Int32} {s : Nat × (Nat → Int32) × (Nat → Int32)}, x4 = nI d → s.1 < 40 → Q (some (.int 1)) (wX (upd O 14 (nI ((foW (O 1) (P 4) (P 5) c r s).1))) (updA (updA P 56 ((foW (O 1) (P 4) (P 5) c r s).2.1)) 57 ((foW (O 1) (P 4) (P 5) c r s).2.2)) Y g) → zV (zMo 3 zX5_follow) false n0 0 0 21 [(4, .int x4), (3, .int r), (0, .ref 55), (1, .ref 1), (2, .int p)] [] (wX (upd O 14 (nI (s.1))) (updA (updA P 56 (s.2.1)) 57 (s.2.2)) Y g) Q := by
  intro c
  induction c with
  | zero =>
    intro d hd x4 r s e4 hs kk
    subst e4
    iterate 3 (refine zv_step (bX5_follow 3) rfl rfl trivial ?_)
    refine zv_ift (show c8 19 < nI d by rw [e19]; exact nI_lt (by omega) (by omega)) ?_
    iterate 1 (refine zv_step (bX5_follow 3) rfl rfl trivial ?_)
    exact zv_iret (bX5_follow 3) rfl (Or.inr ⟨rfl, Or.inr rfl⟩) (Nat.zero_le _) (Nat.zero_le _) kk
  | succ c ih =>
    intro d hd x4 r s e4 hs kk
    subst e4
    rw [foW_s] at kk
    iterate 3 (refine zv_step (bX5_follow 3) rfl rfl trivial ?_)
    refine zv_iff (show ¬ c8 19 < nI d by rw [e19]; exact nI_nlt (by omega) (by omega)) ?_
    iterate 2 (refine zv_step (bX5_follow 3) rfl rfl trivial ?_)
    refine zv_ifb (fun hr => ?_) (fun hr => ?_)
    · rw [if_pos hr] at kk
      iterate 1 (refine zv_step (bX5_follow 3) rfl rfl trivial ?_)
      exact zv_iret (bX5_follow 3) rfl (Or.inr ⟨rfl, Or.inr rfl⟩) (Nat.zero_le _) (Nat.zero_le _) kk
    · rw [if_neg hr] at kk
      iterate 4 (refine zv_step (bX5_follow 3) rfl rfl trivial ?_)
      refine zv_step (bX5_follow 3) rfl rfl (show ¬ Int32.ofInt 3 = 0 by decide) ?_
      refine zv_V2 (bX5_follow 3) rfl rfl rfl rfl rfl rfl rfl ⟨rfl, rfl, rfl⟩ ⟨by decide, by decide⟩ ⟨Nat.zero_le _, Nat.zero_le _⟩ (wDown O P Y g hu hs s.2.1 s.2.2 (r - r / Int32.ofInt 3 * Int32.ofInt 3)) ?_
      rintro r9 _ ⟨rfl, hr9⟩
      obtain ⟨a9, rfl⟩ : ∃ a, r9 = some (.int a) := hr9.elim (fun q => ⟨_, q.2⟩) (fun q => ⟨_, q.2⟩)
      iterate 3 (refine zv_step (bX5_follow 3) rfl rfl trivial ?_)
      refine zv_step (bX5_follow 3) rfl rfl (show ¬ Int32.ofInt 3 = 0 by decide) ?_
      iterate 3 (refine zv_step (bX5_follow 3) rfl rfl trivial ?_)
      exact ih (d + 1) (by omega) (s := (sdW (O 1) (P 4) (P 5) (r - r / Int32.ofInt 3 * Int32.ofInt 3) s)) (nI_1 d) (sdW_le hs) kk
set_option maxHeartbeats 1000000 in
set_option maxRecDepth 20000 in
theorem wFollow (O : Nat → Int32) (P : Nat → Nat → Int32) (Y : Nat → Nat → Int64) (g : Nat → zC) (hu : (O 1).toInt ≤ 120) (p : Int32) : zK 3 zX5_follow [.ref 55, .ref 1, .int p] (wX O P Y g) (fun r w' => ((0 ≤ p.toInt ∧ ¬ lsW (O 1) (P 4) (P 5) 20 (P 56 0) p = Int32.ofInt (-1)) ∧ r = some (.int 1) ∧ w' = (wX (upd O 14 (nI ((foW (O 1) (P 4) (P 5) 20 p (0, P 56, P 57)).1))) (updA (updA P 56 ((foW (O 1) (P 4) (P 5) 20 p (0, P 56, P 57)).2.1)) 57 ((foW (O 1) (P 4) (P 5) 20 p (0, P 56, P 57)).2.2)) Y g)) ∨ (¬ (0 ≤ p.toInt ∧ ¬ lsW (O 1) (P 4) (P 5) 20 (P 56 0) p = Int32.ofInt (-1)) ∧ r = some (.int 0) ∧ w' = wX O P Y g)) := by
  refine zK_of qX5_follow (by decide +kernel) rfl ?_
  iterate 3 (refine zv_step (bX5_follow 3) rfl rfl trivial ?_)
  refine zv_V2 (bX5_follow 3) rfl rfl rfl rfl rfl rfl rfl ⟨rfl, rfl, rfl⟩ ⟨by decide, by decide⟩ ⟨Nat.zero_le _, Nat.zero_le _⟩ (wLeads O P Y g hu p) ?_
  rintro _ _ ⟨rfl, ⟨hh, rfl⟩ | ⟨hh, rfl⟩⟩
  · iterate 1 (refine zv_step (bX5_follow 3) rfl rfl trivial ?_)
    refine zv_ift (by decide) ?_
    iterate 7 (refine zv_step (bX5_follow 3) rfl rfl trivial ?_)
    exact wFollowL O P Y g hu p 20 0 rfl (s := (0, P 56, P 57)) rfl (show (0 : Nat) < 40 by decide) (Or.inl ⟨hh, rfl, rfl⟩)
  · iterate 1 (refine zv_step (bX5_follow 3) rfl rfl trivial ?_)
    refine zv_iff (by decide) ?_
    iterate 1 (refine zv_step (bX5_follow 3) rfl rfl trivial ?_)
    exact zv_iret (bX5_follow 3) rfl (Or.inr ⟨rfl, Or.inl rfl⟩) (Nat.zero_le _) (Nat.zero_le _) (Or.inr ⟨hh, rfl, rfl⟩)
