/-- where a step leads, or none -/
noncomputable def goW (u : Int32) (Xs Ys : Nat → Int32) (c : Nat) (s : Nat × (Nat → Int32) × (Nat → Int32)) : Option (Nat × (Nat → Int32) × (Nat → Int32)) :=
  if c < 2 then (if ptW u Xs Ys (s.2.1 s.1) (nI (c + 1)) = Int32.ofInt (-1) ∨ 40 ≤ s.1 + 1 then none else some (sdW u Xs Ys (nI (c + 1)) s))
  else if s.1 = 0 then none else if c = 2 then some (s.1 - 1, s.2.1, s.2.2) else (if ptW u Xs Ys (s.2.1 (s.1 - 1)) (Int32.ofInt 3 - s.2.2 s.1) = Int32.ofInt (-1) then none else some (s.1, upd s.2.1 s.1 (ptW u Xs Ys (s.2.1 (s.1 - 1)) (Int32.ofInt 3 - s.2.2 s.1)), upd s.2.2 s.1 (Int32.ofInt 3 - s.2.2 s.1)))
/-- what go answers, by where each step leads -/
def goR (b : Prop) (G : Nat → Nat × (Nat → Int32) × (Nat → Int32) → Option (Nat × (Nat → Int32) × (Nat → Int32))) (s : Nat × (Nat → Int32) × (Nat → Int32)) (x : Int32) (s' : Nat × (Nat → Int32) × (Nat → Int32)) (R : Int32) : Prop :=
  (R = Int32.ofInt (-1) ∧ ¬ (0 ≤ x.toInt ∧ x.toInt ≤ 3) ∧ s' = s) ∨ ((0 ≤ x.toInt ∧ x.toInt ≤ 3) ∧ ¬ b ∧ R = c8 (-2) ∧ s' = s) ∨ (b ∧ ∃ c, c < 4 ∧ x = nI c ∧ ((G c s = none ∧ R = c8 (-3) ∧ s' = s) ∨ (G c s = some s' ∧ R = s'.2.1 s'.1)))
set_option maxHeartbeats 1000000 in
set_option maxRecDepth 20000 in
theorem cGoX (O : Nat → Int32) (P : Nat → Nat → Int32) (Y : Nat → Nat → Int64) (g : Nat → zC) (hu : (O 1).toInt ≤ 120) {dd : Nat} (hd : dd < 40) (N D : Nat → Int32) (hb : O 13 = 0 ∨ O 13 = 1) (x : Int32) : zK 3 zX6_go [.ref 0, .int x] (wX (upd O 14 (nI dd)) (updA (updA P 56 N) 57 D) Y g) (fun r w' => ∃ (s' : Nat × (Nat → Int32) × (Nat → Int32)) (R : Int32), r = some (.int R) ∧ w' = (wX (upd O 14 (nI s'.1)) (updA (updA P 56 s'.2.1) 57 s'.2.2) Y g) ∧ goR (O 13 = 1) (goW (O 1) (P 4) (P 5)) (dd, N, D) x s' R) := by
  refine zK_of qX6_go (by decide +kernel) rfl ?_
  iterate 2 (refine zv_step (bX6_go 3) rfl rfl trivial ?_)
  refine zv_ifb (fun h1 => ?_) (fun h1 => ?_)
  · iterate 1 (refine zv_step (bX6_go 3) rfl rfl trivial ?_)
    exact zv_iret (bX6_go 3) rfl (Or.inl rfl) (Nat.zero_le _) (Nat.zero_le _) ⟨(dd, N, D), _, rfl, rfl, Or.inl ⟨rfl, fun q => by have h9 := er_0.mp h1; omega, rfl⟩⟩
  · have h1a : ¬ x < 0 := h1
    iterate 3 (refine zv_step (bX6_go 3) rfl rfl trivial ?_)
    refine zv_ifb (fun h6 => ?_) (fun h6 => ?_)
    · have hx3 : 0 ≤ x.toInt ∧ x.toInt ≤ 3 := ⟨by have h9 : ¬ x.toInt < 0 := fun q => h1a (er_0.mpr q); omega, by have h9 : x ≤ Int32.ofInt 3 := h6; rwa [Int32.le_iff_toInt_le, show (Int32.ofInt 3).toInt = 3 from rfl] at h9⟩
      iterate 2 (refine zv_step (bX6_go 3) rfl rfl trivial ?_)
      refine zv_V0 (bX6_go 3) rfl rfl rfl rfl rfl rfl rfl ⟨rfl, rfl, rfl⟩ ⟨by decide, by decide⟩ ⟨Nat.zero_le _, Nat.zero_le _⟩ (wBegun (upd O 14 (nI dd)) _ Y g hb) ?_
      rintro _ _ ⟨rfl, rfl⟩
      iterate 1 (refine zv_step (bX6_go 3) rfl rfl trivial ?_)
      refine zv_ifb (fun h18 => ?_) (fun h18 => ?_)
      · have hb1 : O 13 = 1 := hb.resolve_left h18
        obtain ⟨k, hk, rfl⟩ := in_nat (x := x) (b := 3) (by decide) hx3
        rcases (show k = 0 ∨ k = 1 ∨ k = 2 ∨ k = 3 by omega) with rfl | rfl | rfl | rfl
        · skip
          iterate 1 (refine zv_step (bX6_go 3) rfl rfl trivial ?_)
          refine zv_step (bX6_go 3) rfl rfl (by decide) ?_
          iterate 7 (refine zv_step (bX6_go 3) rfl rfl trivial ?_)
          refine zv_V2 (bX6_go 3) rfl rfl rfl rfl rfl rfl rfl ⟨rfl, rfl, rfl⟩ ⟨by decide, by decide⟩ ⟨Nat.zero_le _, Nat.zero_le _⟩ (wDown O P Y g hu hd N D _) ?_
          rintro _ _ ⟨rfl, ⟨hz, rfl⟩ | ⟨hz, rfl⟩⟩
          · skip
            iterate 3 (refine zv_step (bX6_go 3) rfl rfl trivial ?_)
            refine zv_ift (rfl) ?_
            iterate 1 (refine zv_step (bX6_go 3) rfl rfl trivial ?_)
            exact zv_iret (bX6_go 3) rfl (Or.inl rfl) (Nat.zero_le _) (Nat.zero_le _) ⟨(sdW (O 1) (P 4) (P 5) (nI 0 + Int32.ofInt 1) (dd, N, D)), _, rfl, rfl, Or.inr (Or.inr ⟨hb1, 0, by decide, rfl, Or.inl ⟨if_pos hz, rfl, if_pos hz⟩⟩)⟩
          · skip
            iterate 3 (refine zv_step (bX6_go 3) rfl rfl trivial ?_)
            refine zv_iff (by decide) ?_
            iterate 2 (refine zv_step (bX6_go 3) rfl rfl trivial ?_)
            refine zv_V0 (bX6_go 3) rfl rfl rfl rfl rfl rfl rfl ⟨rfl, rfl, rfl⟩ ⟨by decide, by decide⟩ ⟨Nat.zero_le _, Nat.zero_le _⟩ (wHere O P Y g (dd := (sdW (O 1) (P 4) (P 5) (nI 0 + Int32.ofInt 1) (dd, N, D)).1) (sdW_le hd) (sdW (O 1) (P 4) (P 5) (nI 0 + Int32.ofInt 1) (dd, N, D)).2.1 (sdW (O 1) (P 4) (P 5) (nI 0 + Int32.ofInt 1) (dd, N, D)).2.2) ?_
            rintro _ _ ⟨rfl, rfl⟩
            iterate 1 (refine zv_step (bX6_go 3) rfl rfl trivial ?_)
            exact zv_iret (bX6_go 3) rfl (Or.inl rfl) (Nat.zero_le _) (Nat.zero_le _) ⟨(sdW (O 1) (P 4) (P 5) (nI 0 + Int32.ofInt 1) (dd, N, D)), _, rfl, rfl, Or.inr (Or.inr ⟨hb1, 0, by decide, rfl, Or.inr ⟨if_neg hz, rfl⟩⟩)⟩
        · skip
          iterate 1 (refine zv_step (bX6_go 3) rfl rfl trivial ?_)
          refine zv_step (bX6_go 3) rfl rfl (by decide) ?_
          iterate 7 (refine zv_step (bX6_go 3) rfl rfl trivial ?_)
          refine zv_V2 (bX6_go 3) rfl rfl rfl rfl rfl rfl rfl ⟨rfl, rfl, rfl⟩ ⟨by decide, by decide⟩ ⟨Nat.zero_le _, Nat.zero_le _⟩ (wDown O P Y g hu hd N D _) ?_
          rintro _ _ ⟨rfl, ⟨hz, rfl⟩ | ⟨hz, rfl⟩⟩
          · skip
            iterate 3 (refine zv_step (bX6_go 3) rfl rfl trivial ?_)
            refine zv_ift (rfl) ?_
            iterate 1 (refine zv_step (bX6_go 3) rfl rfl trivial ?_)
            exact zv_iret (bX6_go 3) rfl (Or.inl rfl) (Nat.zero_le _) (Nat.zero_le _) ⟨(sdW (O 1) (P 4) (P 5) (nI 1 + Int32.ofInt 1) (dd, N, D)), _, rfl, rfl, Or.inr (Or.inr ⟨hb1, 1, by decide, rfl, Or.inl ⟨if_pos hz, rfl, if_pos hz⟩⟩)⟩
          · skip
            iterate 3 (refine zv_step (bX6_go 3) rfl rfl trivial ?_)
            refine zv_iff (by decide) ?_
            iterate 2 (refine zv_step (bX6_go 3) rfl rfl trivial ?_)
            refine zv_V0 (bX6_go 3) rfl rfl rfl rfl rfl rfl rfl ⟨rfl, rfl, rfl⟩ ⟨by decide, by decide⟩ ⟨Nat.zero_le _, Nat.zero_le _⟩ (wHere O P Y g (dd := (sdW (O 1) (P 4) (P 5) (nI 1 + Int32.ofInt 1) (dd, N, D)).1) (sdW_le hd) (sdW (O 1) (P 4) (P 5) (nI 1 + Int32.ofInt 1) (dd, N, D)).2.1 (sdW (O 1) (P 4) (P 5) (nI 1 + Int32.ofInt 1) (dd, N, D)).2.2) ?_
            rintro _ _ ⟨rfl, rfl⟩
            iterate 1 (refine zv_step (bX6_go 3) rfl rfl trivial ?_)
            exact zv_iret (bX6_go 3) rfl (Or.inl rfl) (Nat.zero_le _) (Nat.zero_le _) ⟨(sdW (O 1) (P 4) (P 5) (nI 1 + Int32.ofInt 1) (dd, N, D)), _, rfl, rfl, Or.inr (Or.inr ⟨hb1, 1, by decide, rfl, Or.inr ⟨if_neg hz, rfl⟩⟩)⟩
        · skip
          iterate 1 (refine zv_step (bX6_go 3) rfl rfl trivial ?_)
          refine zv_step (bX6_go 3) rfl rfl (by decide) ?_
          iterate 2 (refine zv_step (bX6_go 3) rfl rfl trivial ?_)
          refine zv_V0 (bX6_go 3) rfl rfl rfl rfl rfl rfl rfl ⟨rfl, rfl, rfl⟩ ⟨by decide, by decide⟩ ⟨Nat.zero_le _, Nat.zero_le _⟩ (wUp O P Y g hd N D) ?_
          rintro _ _ ⟨rfl, ⟨hz, rfl⟩ | ⟨hz, rfl⟩⟩
          · skip
            iterate 4 (refine zv_step (bX6_go 3) rfl rfl trivial ?_)
            refine zv_ift (rfl) ?_
            iterate 1 (refine zv_step (bX6_go 3) rfl rfl trivial ?_)
            exact zv_iret (bX6_go 3) rfl (Or.inl rfl) (Nat.zero_le _) (Nat.zero_le _) ⟨(dd - 1, N, D), _, rfl, rfl, Or.inr (Or.inr ⟨hb1, 2, by decide, rfl, Or.inl ⟨if_pos hz, rfl, by rw [hz]⟩⟩)⟩
          · skip
            iterate 4 (refine zv_step (bX6_go 3) rfl rfl trivial ?_)
            refine zv_iff (by decide) ?_
            iterate 2 (refine zv_step (bX6_go 3) rfl rfl trivial ?_)
            refine zv_V0 (bX6_go 3) rfl rfl rfl rfl rfl rfl rfl ⟨rfl, rfl, rfl⟩ ⟨by decide, by decide⟩ ⟨Nat.zero_le _, Nat.zero_le _⟩ (wHere O P Y g (dd := dd - 1) (by omega) N D) ?_
            rintro _ _ ⟨rfl, rfl⟩
            iterate 1 (refine zv_step (bX6_go 3) rfl rfl trivial ?_)
            exact zv_iret (bX6_go 3) rfl (Or.inl rfl) (Nat.zero_le _) (Nat.zero_le _) ⟨(dd - 1, N, D), _, rfl, rfl, Or.inr (Or.inr ⟨hb1, 2, by decide, rfl, Or.inr ⟨if_neg hz, rfl⟩⟩)⟩
        · skip
          iterate 1 (refine zv_step (bX6_go 3) rfl rfl trivial ?_)
          refine zv_step (bX6_go 3) rfl rfl (by decide) ?_
          rcases (show dd = 0 ∨ ∃ m, dd = m + 1 by cases dd with | zero => exact Or.inl rfl | succ m => exact Or.inr ⟨m, rfl⟩) with rfl | ⟨m, rfl⟩
          · skip
            iterate 4 (refine zv_step (bX6_go 3) rfl rfl trivial ?_)
            refine zv_V1 (bX6_go 3) rfl rfl rfl rfl rfl rfl rfl ⟨rfl, rfl, rfl⟩ ⟨by decide, by decide⟩ ⟨Nat.zero_le _, Nat.zero_le _⟩ (wBeside0 O P Y g N D) ?_
            rintro _ _ ⟨rfl, rfl⟩
            iterate 4 (refine zv_step (bX6_go 3) rfl rfl trivial ?_)
            refine zv_ift (rfl) ?_
            iterate 1 (refine zv_step (bX6_go 3) rfl rfl trivial ?_)
            exact zv_iret (bX6_go 3) rfl (Or.inl rfl) (Nat.zero_le _) (Nat.zero_le _) ⟨(0, N, D), _, rfl, rfl, Or.inr (Or.inr ⟨hb1, 3, by decide, rfl, Or.inl ⟨rfl, rfl, rfl⟩⟩)⟩
          · skip
            iterate 4 (refine zv_step (bX6_go 3) rfl rfl trivial ?_)
            refine zv_V1 (bX6_go 3) rfl rfl rfl rfl rfl rfl rfl ⟨rfl, rfl, rfl⟩ ⟨by decide, by decide⟩ ⟨Nat.zero_le _, Nat.zero_le _⟩ (wBeside1 O P Y g hu hd N D) ?_
            rintro _ _ (⟨hz, rfl, rfl⟩ | ⟨hz, rfl, rfl⟩)
            · skip
              iterate 4 (refine zv_step (bX6_go 3) rfl rfl trivial ?_)
              refine zv_ift (rfl) ?_
              iterate 1 (refine zv_step (bX6_go 3) rfl rfl trivial ?_)
              exact zv_iret (bX6_go 3) rfl (Or.inl rfl) (Nat.zero_le _) (Nat.zero_le _) ⟨(m + 1, N, D), _, rfl, rfl, Or.inr (Or.inr ⟨hb1, 3, by decide, rfl, Or.inl ⟨if_pos hz, rfl, rfl⟩⟩)⟩
            · skip
              iterate 4 (refine zv_step (bX6_go 3) rfl rfl trivial ?_)
              refine zv_iff (by decide) ?_
              iterate 2 (refine zv_step (bX6_go 3) rfl rfl trivial ?_)
              refine zv_V0 (bX6_go 3) rfl rfl rfl rfl rfl rfl rfl ⟨rfl, rfl, rfl⟩ ⟨by decide, by decide⟩ ⟨Nat.zero_le _, Nat.zero_le _⟩ (wHere O P Y g (dd := m + 1) hd (upd N (m + 1) (ptW (O 1) (P 4) (P 5) (N m) (Int32.ofInt 3 - D (m + 1)))) (upd D (m + 1) (Int32.ofInt 3 - D (m + 1)))) ?_
              rintro _ _ ⟨rfl, rfl⟩
              iterate 1 (refine zv_step (bX6_go 3) rfl rfl trivial ?_)
              exact zv_iret (bX6_go 3) rfl (Or.inl rfl) (Nat.zero_le _) (Nat.zero_le _) ⟨(m + 1, upd N (m + 1) (ptW (O 1) (P 4) (P 5) (N m) (Int32.ofInt 3 - D (m + 1))), upd D (m + 1) (Int32.ofInt 3 - D (m + 1))), _, rfl, rfl, Or.inr (Or.inr ⟨hb1, 3, by decide, rfl, Or.inr ⟨if_neg hz, rfl⟩⟩)⟩
      · iterate 1 (refine zv_step (bX6_go 3) rfl rfl trivial ?_)
        exact zv_iret (bX6_go 3) rfl (Or.inl rfl) (Nat.zero_le _) (Nat.zero_le _) ⟨(dd, N, D), _, rfl, rfl, Or.inr (Or.inl ⟨hx3, fun q => h18 (fun w => absurd (q.symm.trans w) (by decide)), rfl, rfl⟩)⟩
    · iterate 1 (refine zv_step (bX6_go 3) rfl rfl trivial ?_)
      exact zv_iret (bX6_go 3) rfl (Or.inl rfl) (Nat.zero_le _) (Nat.zero_le _) ⟨(dd, N, D), _, rfl, rfl, Or.inl ⟨rfl, fun q => h6 (show x ≤ Int32.ofInt 3 by rw [Int32.le_iff_toInt_le, show (Int32.ofInt 3).toInt = 3 from rfl]; exact q.2), rfl⟩⟩
def ldR (b : Prop) (L : Prop) (F s : Nat × (Nat → Int32) × (Nat → Int32)) (s' : Nat × (Nat → Int32) × (Nat → Int32)) (R : Int32) : Prop := (¬ b ∧ R = c8 (-2) ∧ s' = s) ∨ (b ∧ ((¬ L ∧ R = Int32.ofInt (-1) ∧ s' = s) ∨ (L ∧ R = F.2.1 F.1 ∧ s' = F)))
set_option maxHeartbeats 1000000 in
set_option maxRecDepth 20000 in
theorem cLeadX (O : Nat → Int32) (P : Nat → Nat → Int32) (Y : Nat → Nat → Int64) (g : Nat → zC) (hu : (O 1).toInt ≤ 120) {dd : Nat} (h14 : O 14 = nI dd) (hb : O 13 = 0 ∨ O 13 = 1) (x : Int32) : zK 4 zX6_lead [.ref 0, .int x] (wX O P Y g) (fun r w' => ∃ (s' : Nat × (Nat → Int32) × (Nat → Int32)) (R : Int32), r = some (.int R) ∧ w' = (wX (upd O 14 (nI s'.1)) (updA (updA P 56 s'.2.1) 57 s'.2.2) Y g) ∧ ldR (O 13 = 1) (0 ≤ x.toInt ∧ ¬ lsW (O 1) (P 4) (P 5) 20 (P 56 0) x = Int32.ofInt (-1)) (foW (O 1) (P 4) (P 5) 20 x (0, P 56, P 57)) (dd, P 56, P 57) s' R) := by
  refine zK_of qX6_lead (by decide +kernel) rfl ?_
  iterate 2 (refine zv_step (bX6_lead 4) rfl rfl trivial ?_)
  refine zv_V0 (bX6_lead 4) rfl rfl rfl rfl rfl rfl rfl ⟨rfl, rfl, rfl⟩ ⟨by decide, by decide⟩ ⟨Nat.zero_le _, Nat.zero_le _⟩ (wBegun O P Y g hb) ?_
  rintro _ _ ⟨rfl, rfl⟩
  iterate 1 (refine zv_step (bX6_lead 4) rfl rfl trivial ?_)
  refine zv_ifb (fun h7 => ?_) (fun h7 => ?_)
  · have hb1 : O 13 = 1 := hb.resolve_left h7
    iterate 5 (refine zv_step (bX6_lead 4) rfl rfl trivial ?_)
    refine zv_V2 (bX6_lead 4) rfl rfl rfl rfl rfl rfl rfl ⟨rfl, rfl, rfl⟩ ⟨by decide, by decide⟩ ⟨Nat.zero_le _, Nat.zero_le _⟩ (wFollow O P Y g hu _) ?_
    rintro _ _ (⟨hf, rfl, rfl⟩ | ⟨hf, rfl, rfl⟩)
    · skip
      iterate 1 (refine zv_step (bX6_lead 4) rfl rfl trivial ?_)
      refine zv_iff (by decide) ?_
      iterate 2 (refine zv_step (bX6_lead 4) rfl rfl trivial ?_)
      refine zv_V0 (bX6_lead 4) rfl rfl rfl rfl rfl rfl rfl ⟨rfl, rfl, rfl⟩ ⟨by decide, by decide⟩ ⟨Nat.zero_le _, Nat.zero_le _⟩ (wHere O P Y g (dd := (foW (O 1) (P 4) (P 5) 20 x (0, P 56, P 57)).1) (foW_le 20 x (0, P 56, P 57) (show 0 < 40 by decide)) (foW (O 1) (P 4) (P 5) 20 x (0, P 56, P 57)).2.1 (foW (O 1) (P 4) (P 5) 20 x (0, P 56, P 57)).2.2) ?_
      rintro _ _ ⟨rfl, rfl⟩
      iterate 1 (refine zv_step (bX6_lead 4) rfl rfl trivial ?_)
      exact zv_iret (bX6_lead 4) rfl (Or.inl rfl) (Nat.zero_le _) (Nat.zero_le _) ⟨(foW (O 1) (P 4) (P 5) 20 x (0, P 56, P 57)), _, rfl, rfl, Or.inr ⟨hb1, Or.inr ⟨hf, rfl, rfl⟩⟩⟩
    · skip
      iterate 1 (refine zv_step (bX6_lead 4) rfl rfl trivial ?_)
      refine zv_ift (rfl) ?_
      iterate 1 (refine zv_step (bX6_lead 4) rfl rfl trivial ?_)
      exact zv_iret (bX6_lead 4) rfl (Or.inl rfl) (Nat.zero_le _) (Nat.zero_le _) ⟨(dd, P 56, P 57), _, rfl, wX_rt P Y g h14, Or.inr ⟨hb1, Or.inl ⟨hf, rfl, rfl⟩⟩⟩
  · iterate 1 (refine zv_step (bX6_lead 4) rfl rfl trivial ?_)
    exact zv_iret (bX6_lead 4) rfl (Or.inl rfl) (Nat.zero_le _) (Nat.zero_le _) ⟨(dd, P 56, P 57), _, rfl, wX_rt P Y g h14, Or.inl ⟨fun q => h7 (fun w => absurd (q.symm.trans w) (by decide)), rfl, rfl⟩⟩
