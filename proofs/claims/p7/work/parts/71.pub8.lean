theorem spW_two {O : Nat → Int32} {P : Nat → Nat → Int32} {l : Nat} (hl : l ≤ 20) (hO : O 9 = nI l) (a b c d e f : Int32) (R S : Nat → Int32) : spW O P (upd (upd (upd (upd (upd (upd O 4 a) 5 b) 3 c) 7 d) 8 e) 6 f) (updA (updA P 28 R) 30 S) :=
  ⟨⟨l, hl, hO⟩, fun j hj => by rw [upd_ne _ _ (by omega), upd_ne _ _ (by omega), upd_ne _ _ (by omega), upd_ne _ _ (by omega), upd_ne _ _ (by omega), upd_ne _ _ (by omega)], fun i h k _ => (updA_ne _ _ k).trans (updA_ne _ _ h)⟩
set_option maxHeartbeats 1000000 in
set_option maxRecDepth 20000 in
theorem cSound (O : Nat → Int32) (P : Nat → Nat → Int32) (Y : Nat → Nat → Int64) (g : Nat → zC) {u : Nat} (hu : u ≤ 120) (h1 : O 1 = nI u) (hp : pgI u (P 2) (P 4) (P 5) (P 6)) {l : Nat} (hl : l ≤ 20) (hO : O 9 = nI l) (x n m : Int32) : zK 86 zX6_sound [.ref 0, .int x, .int n, .int m] (wX O P Y g) (fun r w' => ∃ (O' : Nat → Int32) (P' : Nat → Nat → Int32) (R : Int32), r = some (.int R) ∧ w' = wX O' P' Y g ∧ spW O P O' P') := by
  refine zK_of qX6_sound (by decide +kernel) rfl ?_
  iterate 1 (refine zv_step (bX6_sound 86) rfl rfl trivial ?_)
  refine zv_S1 (bX6_sound 86) rfl rfl rfl rfl ⟨rfl, rfl, rfl⟩ ⟨by decide, by decide⟩ ⟨Nat.zero_le _, Nat.zero_le _⟩ (hX6_isStyle _ _) ?_
  rintro _ _ ⟨rfl, ⟨hx, rfl⟩ | ⟨hx, rfl⟩⟩
  · iterate 1 (refine zv_step (bX6_sound 86) rfl rfl trivial ?_)
    refine zv_iff (by decide) ?_
    iterate 3 (refine zv_step (bX6_sound 86) rfl rfl trivial ?_)
    refine zv_V1 (bX6_sound 86) rfl rfl rfl rfl rfl rfl rfl ⟨rfl, rfl, rfl⟩ ⟨by decide, by decide⟩ ⟨Nat.zero_le _, Nat.zero_le _⟩ (pHas1 O P Y g _) ?_
    rintro _ _ ⟨rfl, ⟨hh, rfl⟩ | ⟨hh, rfl⟩⟩
    · iterate 1 (refine zv_step (bX6_sound 86) rfl rfl trivial ?_)
      refine zv_iff (by decide) ?_
      iterate 3 (refine zv_step (bX6_sound 86) rfl rfl trivial ?_)
      refine zv_V1 (bX6_sound 86) rfl rfl rfl rfl rfl rfl rfl ⟨rfl, rfl, rfl⟩ ⟨by decide, by decide⟩ ⟨Nat.zero_le _, Nat.zero_le _⟩ (pHas1 O P Y g _) ?_
      rintro _ _ ⟨rfl, ⟨hm, rfl⟩ | ⟨hm, rfl⟩⟩
      · iterate 1 (refine zv_step (bX6_sound 86) rfl rfl trivial ?_)
        refine zv_ift (by decide) ?_
        obtain ⟨j, hj, rfl⟩ := has_j hu h1 hh
        obtain ⟨i, hi, rfl⟩ := has_j hu h1 hm
        iterate 8 (refine zv_step (bX6_sound 86) rfl rfl trivial ?_)
        refine zv_step (bX6_sound 86) rfl rfl (vp_in_iff.mpr ⟨hx.1, Int.lt_of_le_of_lt hx.2 (by decide)⟩) ?_
        iterate 1 (refine zv_step (bX6_sound 86) rfl rfl trivial ?_)
        refine zv_V4 (bX6_sound 86) rfl rfl rfl rfl rfl rfl rfl ⟨rfl, rfl, rfl⟩ ⟨by decide, by decide⟩ ⟨Nat.zero_le _, Nat.zero_le _⟩ (sStyle27 O P Y g hu h1 hp hj (f := 41) (by decide) rfl) ?_
        rintro _ _ ⟨rfl, rfl⟩
        have hln : (tlW (O 1) (P 75 x.toNatClampNeg) (Int32.ofInt 0) P 41 (nI j) (hbW (P 75 x.toNatClampNeg) (P 2 j))).length ≤ 6 * szq (P 6) (nI j) := by rw [h1]; exact tlW_len hu hp 41 _ _
        have hsz := szq_le hp hj hu
        generalize (tlW (O 1) (P 75 x.toNatClampNeg) (Int32.ofInt 0) P 41 (nI j) (hbW (P 75 x.toNatClampNeg) (P 2 j))) = ws at hln ⊢
        iterate 8 (refine zv_step (bX6_sound 86) rfl rfl trivial ?_)
        refine zv_step (bX6_sound 86) rfl rfl (vp_in_iff.mpr ⟨hx.1, Int.lt_of_le_of_lt hx.2 (by decide)⟩) ?_
        iterate 1 (refine zv_step (bX6_sound 86) rfl rfl trivial ?_)
        refine zv_V4 (bX6_sound 86) rfl rfl rfl rfl rfl rfl rfl ⟨rfl, rfl, rfl⟩ ⟨by decide, by decide⟩ ⟨Nat.zero_le _, Nat.zero_le _⟩ (sStyle29 (upd (upd (upd O 4 (P 75 x.toNatClampNeg)) 5 (Int32.ofInt 0)) 3 (nI ws.length)) (updA P 28 (ap8 (P 28) 0 ws)) Y g hu h1 hp hi (f := 41) (by decide) rfl) ?_
        rintro _ _ ⟨rfl, rfl⟩
        iterate 2 (refine zv_step (bX6_sound 86) rfl rfl trivial ?_)
        refine zv_V0 (bX6_sound 86) rfl rfl rfl rfl rfl rfl rfl ⟨rfl, rfl, rfl⟩ ⟨by decide, by decide⟩ ⟨Nat.zero_le _, Nat.zero_le _⟩ (sLong27 _ _ _ _) ?_
        rintro _ _ ⟨rfl, ⟨hg, rfl⟩ | ⟨hg, rfl⟩⟩
        · iterate 1 (refine zv_step (bX6_sound 86) rfl rfl trivial ?_)
          refine zv_ift (by decide) ?_
          iterate 1 (refine zv_step (bX6_sound 86) rfl rfl trivial ?_)
          exact zv_iret (bX6_sound 86) rfl (Or.inl rfl) (Nat.zero_le _) (Nat.zero_le _) ⟨_, _, _, rfl, rfl, spW_two hl hO _ _ _ _ _ _ _ _⟩
        · iterate 1 (refine zv_step (bX6_sound 86) rfl rfl trivial ?_)
          refine zv_iff (by decide) ?_
          iterate 2 (refine zv_step (bX6_sound 86) rfl rfl trivial ?_)
          refine zv_V0 (bX6_sound 86) rfl rfl rfl rfl rfl rfl rfl ⟨rfl, rfl, rfl⟩ ⟨by decide, by decide⟩ ⟨Nat.zero_le _, Nat.zero_le _⟩ (sLong29 _ _ _ _) ?_
          rintro _ _ ⟨rfl, ⟨hk, rfl⟩ | ⟨hk, rfl⟩⟩
          · iterate 1 (refine zv_step (bX6_sound 86) rfl rfl trivial ?_)
            refine zv_iff (by decide) ?_
            iterate 1 (refine zv_step (bX6_sound 86) rfl rfl trivial ?_)
            exact zv_iret (bX6_sound 86) rfl (Or.inl rfl) (Nat.zero_le _) (Nat.zero_le _) ⟨_, _, _, rfl, rfl, spW_two hl hO _ _ _ _ _ _ _ _⟩
          · iterate 1 (refine zv_step (bX6_sound 86) rfl rfl trivial ?_)
            refine zv_ift (by decide) ?_
            iterate 4 (refine zv_step (bX6_sound 86) rfl rfl trivial ?_)
            refine zv_V1 (bX6_sound 86) rfl rfl rfl rfl rfl rfl rfl ⟨rfl, rfl, rfl⟩ ⟨by decide, by decide⟩ ⟨Nat.zero_le _, Nat.zero_le _⟩ (sSame _ _ _ _ (q := ws.length) (by omega) rfl) ?_
            rintro _ _ ⟨rfl, rfl | rfl⟩
            · iterate 1 (refine zv_step (bX6_sound 86) rfl rfl trivial ?_)
              refine zv_iff (by decide) ?_
              iterate 2 (refine zv_step (bX6_sound 86) rfl rfl trivial ?_)
              exact zv_iret (bX6_sound 86) rfl (Or.inl rfl) (Nat.zero_le _) (Nat.zero_le _) ⟨_, _, _, rfl, rfl, spW_two hl hO _ _ _ _ _ _ _ _⟩
            · iterate 1 (refine zv_step (bX6_sound 86) rfl rfl trivial ?_)
              refine zv_ift (by decide) ?_
              iterate 1 (refine zv_step (bX6_sound 86) rfl rfl trivial ?_)
              exact zv_iret (bX6_sound 86) rfl (Or.inl rfl) (Nat.zero_le _) (Nat.zero_le _) ⟨_, _, _, rfl, rfl, spW_two hl hO _ _ _ _ _ _ _ _⟩
      · iterate 1 (refine zv_step (bX6_sound 86) rfl rfl trivial ?_)
        refine zv_iff (by decide) ?_
        iterate 1 (refine zv_step (bX6_sound 86) rfl rfl trivial ?_)
        exact zv_iret (bX6_sound 86) rfl (Or.inl rfl) (Nat.zero_le _) (Nat.zero_le _) ⟨O, P, _, rfl, rfl, ⟨l, hl, hO⟩, fun _ _ => rfl, fun _ _ _ _ => rfl⟩
    · iterate 1 (refine zv_step (bX6_sound 86) rfl rfl trivial ?_)
      refine zv_ift (by decide) ?_
      iterate 1 (refine zv_step (bX6_sound 86) rfl rfl trivial ?_)
      exact zv_iret (bX6_sound 86) rfl (Or.inl rfl) (Nat.zero_le _) (Nat.zero_le _) ⟨O, P, _, rfl, rfl, ⟨l, hl, hO⟩, fun _ _ => rfl, fun _ _ _ _ => rfl⟩
  · iterate 1 (refine zv_step (bX6_sound 86) rfl rfl trivial ?_)
    refine zv_ift (by decide) ?_
    iterate 1 (refine zv_step (bX6_sound 86) rfl rfl trivial ?_)
    exact zv_iret (bX6_sound 86) rfl (Or.inl rfl) (Nat.zero_le _) (Nat.zero_le _) ⟨O, P, _, rfl, rfl, ⟨l, hl, hO⟩, fun _ _ => rfl, fun _ _ _ _ => rfl⟩
