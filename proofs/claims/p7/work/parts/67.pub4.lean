/-- what write, doubt and their like may change of the class: the pages and the ways -/
def grW (O : Nat → Int32) (P : Nat → Nat → Int32) (u : Nat) (O' : Nat → Int32) (P' : Nat → Nat → Int32) (Y' : Nat → Nat → Int64) : Prop := wyI Y' ∧ (∃ u' : Nat, O' 1 = nI u' ∧ u ≤ u' ∧ u' ≤ 120 ∧ pgB 1 u' P') ∧ (∀ j, j ≠ 1 → j ≠ 2 → j ≠ 10 → j ≠ 11 → j ≠ 12 → O' j = O j) ∧ (∀ i, 26 < i → P' i = P i)
theorem pgB_fr {u : Nat} {P P' : Nat → Nat → Int32} (hp : pgB 1 u P) (h : ∀ i, ¬ (14 < i ∧ i ≤ 14 + 12) → P' i = P i) : pgB 1 u P' := by
  unfold pgB
  rw [h (1 + 1) (by omega), h (1 + 3) (by omega), h (1 + 4) (by omega), h (1 + 5) (by omega)]
  exact hp
set_option maxHeartbeats 1000000 in
set_option maxRecDepth 20000 in
theorem cWrite (O : Nat → Int32) (P : Nat → Nat → Int32) (Y : Nat → Nat → Int64) (g : Nat → zC) {u : Nat} (hu : u ≤ 120) (hO1 : O 1 = nI u) (hp : pgB 1 u P) (hY : wyI Y) {l : Nat} (hl : l ≤ 20) (hO : O 9 = nI l) (x : Int32) (k : Int64) : zK 66 zX6_write [.ref 0, .int x, .long k] (wX O P Y g) (fun r w' => ∃ (O' : Nat → Int32) (P' : Nat → Nat → Int32) (Y' : Nat → Nat → Int64) (R : Int32), r = some (.int R) ∧ w' = wX O' P' Y' g ∧ grW O P u O' P' Y') := by
  refine zK_of qX6_write (by decide +kernel) rfl ?_
  iterate 1 (refine zv_step (bX6_write 66) rfl rfl trivial ?_)
  refine zv_S1 (bX6_write 66) rfl rfl rfl rfl ⟨rfl, rfl, rfl⟩ ⟨by decide, by decide⟩ ⟨Nat.zero_le _, Nat.zero_le _⟩ (hX6_isStyleOrFree _ _) ?_
  rintro _ _ ⟨rfl, ⟨hx, rfl⟩ | ⟨hx, rfl⟩⟩
  · iterate 1 (refine zv_step (bX6_write 66) rfl rfl trivial ?_)
    refine zv_iff (by decide) ?_
    iterate 4 (refine zv_step (bX6_write 66) rfl rfl trivial ?_)
    refine zv_ifb (fun h1 => ?_) (fun h1 => ?_)
    · iterate 3 (refine zv_step (bX6_write 66) rfl rfl trivial ?_)
      refine zv_V1 (bX6_write 66) rfl rfl rfl rfl rfl rfl rfl ⟨rfl, rfl, rfl⟩ ⟨by decide, by decide⟩ ⟨Nat.zero_le _, Nat.zero_le _⟩ (cTallyIn O P Y g hl hO hx) ?_
      rintro _ _ ⟨a, b, Y1, v, rfl, rfl, hw⟩
      iterate 2 (refine zv_step (bX6_write 66) rfl rfl trivial ?_)
      refine zv_ifb (fun h2 => ?_) (fun h2 => ?_)
      · iterate 9 (refine zv_step (bX6_write 66) rfl rfl trivial ?_)
        refine zv_V2 (bX6_write 66) rfl rfl rfl rfl rfl rfl rfl ⟨rfl, rfl, rfl⟩ ⟨by decide, by decide⟩ ⟨Nat.zero_le _, Nat.zero_le _⟩ (hBuild14 (upd (upd (upd O 10 a) 11 b) 12 (O 0)) Y1 g (hw hY) (u := 0) (P := P) (by omega) (fun n hn => absurd hn (by omega)) hl hO _) ?_
        rintro _ _ ⟨u1, P1, R1, rfl, rfl, q1, q2, q3⟩
        iterate 10 (refine zv_step (bX6_write 66) rfl rfl trivial ?_)
        refine zv_ifb (fun h3 => ?_) (fun h3 => ?_)
        · refine zv_world (show wX (upd (upd (upd (upd O 10 a) 11 b) 12 (O 0)) 2 (nI u1)) P1 Y1 g = wX (upd (upd (upd (upd (upd O 10 a) 11 b) 12 (O 0)) 2 (nI u1)) 1 (nI u)) P1 Y1 g by rw [upd_same (show (upd (upd (upd (upd O 10 a) 11 b) 12 (O 0)) 2 (nI u1)) 1 = nI u from hO1)]) ?_
          iterate 5 (refine zv_step (bX6_write 66) rfl rfl trivial ?_)
          refine zv_V2 (bX6_write 66) rfl rfl rfl rfl rfl rfl rfl ⟨rfl, rfl, rfl⟩ ⟨by decide, by decide⟩ ⟨Nat.zero_le _, Nat.zero_le _⟩ (hBuild1 (upd (upd (upd (upd O 10 a) 11 b) 12 (O 0)) 2 (nI u1)) Y1 g (hw hY) hu (pgB_fr hp q1.2.2.2.2) hl hO _) ?_
          rintro _ _ ⟨u2, P2, R2, rfl, rfl, p1, p2, p3⟩
          exact zv_iret (bX6_write 66) rfl (Or.inl rfl) (Nat.zero_le _) (Nat.zero_le _) ⟨_, P2, Y1, _, rfl, rfl, hw hY, ⟨u2, rfl, p1.1, p1.2.1, p1.2.2.1⟩, fun j b1 b2 b3 b4 b5 => (upd_ne _ _ b1).trans ((upd_ne _ _ b2).trans (upd_3 O a b (O 0) b3 b4 b5)), fun i hi => (p1.2.2.2.2 i (by omega)).trans (q1.2.2.2.2 i (by omega))⟩
        · iterate 1 (refine zv_step (bX6_write 66) rfl rfl trivial ?_)
          exact zv_iret (bX6_write 66) rfl (Or.inl rfl) (Nat.zero_le _) (Nat.zero_le _) ⟨_, P1, Y1, _, rfl, rfl, hw hY, ⟨u, hO1, Nat.le_refl _, hu, pgB_fr hp q1.2.2.2.2⟩, fun j b1 b2 b3 b4 b5 => (upd_ne _ _ b2).trans (upd_3 O a b (O 0) b3 b4 b5), fun i hi => q1.2.2.2.2 i (by omega)⟩
      · iterate 1 (refine zv_step (bX6_write 66) rfl rfl trivial ?_)
        exact zv_iret (bX6_write 66) rfl (Or.inl rfl) (Nat.zero_le _) (Nat.zero_le _) ⟨_, P, Y1, _, rfl, rfl, hw hY, ⟨u, hO1, Nat.le_refl _, hu, hp⟩, fun j b1 b2 b3 b4 b5 => upd_3 O a b (O 0) b3 b4 b5, fun _ _ => rfl⟩
    · iterate 1 (refine zv_step (bX6_write 66) rfl rfl trivial ?_)
      exact zv_iret (bX6_write 66) rfl (Or.inl rfl) (Nat.zero_le _) (Nat.zero_le _) ⟨O, P, Y, _, rfl, rfl, hY, ⟨u, hO1, Nat.le_refl _, hu, hp⟩, fun _ _ _ _ _ _ => rfl, fun _ _ => rfl⟩
  · iterate 1 (refine zv_step (bX6_write 66) rfl rfl trivial ?_)
    refine zv_ift (by decide) ?_
    iterate 1 (refine zv_step (bX6_write 66) rfl rfl trivial ?_)
    exact zv_iret (bX6_write 66) rfl (Or.inl rfl) (Nat.zero_le _) (Nat.zero_le _) ⟨O, P, Y, _, rfl, rfl, hY, ⟨u, hO1, Nat.le_refl _, hu, hp⟩, fun _ _ _ _ _ _ => rfl, fun _ _ => rfl⟩
set_option maxHeartbeats 1000000 in
set_option maxRecDepth 20000 in
theorem cDoubt (O : Nat → Int32) (P : Nat → Nat → Int32) (Y : Nat → Nat → Int64) (g : Nat → zC) {u : Nat} (hu : u ≤ 120) (hO1 : O 1 = nI u) (hp : pgB 1 u P) (hY : wyI Y) {l : Nat} (hl : l ≤ 20) (hO : O 9 = nI l) (x : Int32) (k k2 : Int64) : zK 66 zX6_doubt [.ref 0, .int x, .long k, .long k2] (wX O P Y g) (fun r w' => ∃ (O' : Nat → Int32) (P' : Nat → Nat → Int32) (Y' : Nat → Nat → Int64) (R : Int32), r = some (.int R) ∧ w' = wX O' P' Y' g ∧ grW O P u O' P' Y') := by
  refine zK_of qX6_doubt (by decide +kernel) rfl ?_
  iterate 1 (refine zv_step (bX6_doubt 66) rfl rfl trivial ?_)
  refine zv_S1 (bX6_doubt 66) rfl rfl rfl rfl ⟨rfl, rfl, rfl⟩ ⟨by decide, by decide⟩ ⟨Nat.zero_le _, Nat.zero_le _⟩ (hX6_isStyleOrFree _ _) ?_
  rintro _ _ ⟨rfl, ⟨hx, rfl⟩ | ⟨hx, rfl⟩⟩
  · iterate 1 (refine zv_step (bX6_doubt 66) rfl rfl trivial ?_)
    refine zv_iff (by decide) ?_
    iterate 4 (refine zv_step (bX6_doubt 66) rfl rfl trivial ?_)
    refine zv_ifb (fun h1 => ?_) (fun h1 => ?_)
    · iterate 1 (refine zv_step (bX6_doubt 66) rfl rfl trivial ?_)
      exact zv_iret (bX6_doubt 66) rfl (Or.inl rfl) (Nat.zero_le _) (Nat.zero_le _) ⟨O, P, Y, _, rfl, rfl, hY, ⟨u, hO1, Nat.le_refl _, hu, hp⟩, fun _ _ _ _ _ _ => rfl, fun _ _ => rfl⟩
    · iterate 4 (refine zv_step (bX6_doubt 66) rfl rfl trivial ?_)
      refine zv_ifb (fun h2 => ?_) (fun h2 => ?_)
      · iterate 2 (refine zv_step (bX6_doubt 66) rfl rfl trivial ?_)
        refine zv_V1 (bX6_doubt 66) rfl rfl rfl rfl rfl rfl rfl ⟨rfl, rfl, rfl⟩ ⟨by decide, by decide⟩ ⟨Nat.zero_le _, Nat.zero_le _⟩ (cTallyIn O P Y g hl hO hx) ?_
        rintro _ _ ⟨a, b, Y1, v, rfl, rfl, hw⟩
        iterate 5 (refine zv_step (bX6_doubt 66) rfl rfl trivial ?_)
        refine zv_ifb (fun h3 => ?_) (fun h3 => ?_)
        · iterate 1 (refine zv_step (bX6_doubt 66) rfl rfl trivial ?_)
          exact zv_iret (bX6_doubt 66) rfl (Or.inl rfl) (Nat.zero_le _) (Nat.zero_le _) ⟨_, P, Y1, _, rfl, rfl, hw hY, ⟨u, hO1, Nat.le_refl _, hu, hp⟩, fun j b1 b2 b3 b4 b5 => upd_3 O a b (O 0) b3 b4 b5, fun _ _ => rfl⟩
        · iterate 4 (refine zv_step (bX6_doubt 66) rfl rfl trivial ?_)
          refine zv_ifb (fun h4 => ?_) (fun h4 => ?_)
          · iterate 4 (refine zv_step (bX6_doubt 66) rfl rfl trivial ?_)
            refine zv_ifb (fun h5 => ?_) (fun h5 => ?_)
            · iterate 9 (refine zv_step (bX6_doubt 66) rfl rfl trivial ?_)
              refine zv_V2 (bX6_doubt 66) rfl rfl rfl rfl rfl rfl rfl ⟨rfl, rfl, rfl⟩ ⟨by decide, by decide⟩ ⟨Nat.zero_le _, Nat.zero_le _⟩ (hBuild14 (upd (upd (upd O 10 a) 11 b) 12 (O 0)) Y1 g (hw hY) (u := 0) (P := P) (by omega) (fun n hn => absurd hn (by omega)) hl hO _) ?_
              rintro _ _ ⟨u1, P1, R1, rfl, rfl, q1, q2, q3⟩
              iterate 6 (refine zv_step (bX6_doubt 66) rfl rfl trivial ?_)
              refine zv_V2 (bX6_doubt 66) rfl rfl rfl rfl rfl rfl rfl ⟨rfl, rfl, rfl⟩ ⟨by decide, by decide⟩ ⟨Nat.zero_le _, Nat.zero_le _⟩ (hBuild14 (upd (upd (upd O 10 a) 11 b) 12 (O 0)) Y1 g (hw hY) q1.2.1 q1.2.2.1 hl hO _) ?_
              rintro _ _ ⟨u2, P2, R2, rfl, rfl, p1, p2, p3⟩
              iterate 5 (refine zv_step (bX6_doubt 66) rfl rfl trivial ?_)
              refine zv_V2 (bX6_doubt 66) rfl rfl rfl rfl rfl rfl rfl ⟨rfl, rfl, rfl⟩ ⟨by decide, by decide⟩ ⟨Nat.zero_le _, Nat.zero_le _⟩ (pUnlike (upd (upd (upd (upd O 10 a) 11 b) 12 (O 0)) 2 (nI u2)) P2 Y1 g (show (nI u2).toInt ≤ 120 by have := p1.2.1; rw [nI_toInt (by omega)]; omega) _ _) ?_
              rintro _ _ ⟨rfl, v3, rfl⟩
              exact zv_iret (bX6_doubt 66) rfl (Or.inl rfl) (Nat.zero_le _) (Nat.zero_le _) ⟨_, P2, Y1, _, rfl, rfl, hw hY, ⟨u, hO1, Nat.le_refl _, hu, pgB_fr hp (fun i hi => (p1.2.2.2.2 i hi).trans (q1.2.2.2.2 i hi))⟩, fun j b1 b2 b3 b4 b5 => (upd_ne _ _ b2).trans (upd_3 O a b (O 0) b3 b4 b5), fun i hi => (fun i hi => (p1.2.2.2.2 i hi).trans (q1.2.2.2.2 i hi)) i (by omega)⟩
            · iterate 1 (refine zv_step (bX6_doubt 66) rfl rfl trivial ?_)
              exact zv_iret (bX6_doubt 66) rfl (Or.inl rfl) (Nat.zero_le _) (Nat.zero_le _) ⟨_, P, Y1, _, rfl, rfl, hw hY, ⟨u, hO1, Nat.le_refl _, hu, hp⟩, fun j b1 b2 b3 b4 b5 => upd_3 O a b (O 0) b3 b4 b5, fun _ _ => rfl⟩
          · iterate 1 (refine zv_step (bX6_doubt 66) rfl rfl trivial ?_)
            exact zv_iret (bX6_doubt 66) rfl (Or.inl rfl) (Nat.zero_le _) (Nat.zero_le _) ⟨_, P, Y1, _, rfl, rfl, hw hY, ⟨u, hO1, Nat.le_refl _, hu, hp⟩, fun j b1 b2 b3 b4 b5 => upd_3 O a b (O 0) b3 b4 b5, fun _ _ => rfl⟩
      · iterate 1 (refine zv_step (bX6_doubt 66) rfl rfl trivial ?_)
        exact zv_iret (bX6_doubt 66) rfl (Or.inl rfl) (Nat.zero_le _) (Nat.zero_le _) ⟨O, P, Y, _, rfl, rfl, hY, ⟨u, hO1, Nat.le_refl _, hu, hp⟩, fun _ _ _ _ _ _ => rfl, fun _ _ => rfl⟩
  · iterate 1 (refine zv_step (bX6_doubt 66) rfl rfl trivial ?_)
    refine zv_ift (by decide) ?_
    iterate 1 (refine zv_step (bX6_doubt 66) rfl rfl trivial ?_)
    exact zv_iret (bX6_doubt 66) rfl (Or.inl rfl) (Nat.zero_le _) (Nat.zero_le _) ⟨O, P, Y, _, rfl, rfl, hY, ⟨u, hO1, Nat.le_refl _, hu, hp⟩, fun _ _ _ _ _ _ => rfl, fun _ _ => rfl⟩
