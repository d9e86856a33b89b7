set_option maxHeartbeats 2000000 in
set_option maxRecDepth 20000 in
theorem cM_keep (p1 p2 p3 : Int32) {w : zW} (h : ∀ j, 76 ≤ j → w[j]? = w0[j]?) : zK 3 zX7_keep [.ref 76, .int p1, .int p2, .int p3] w (fun r w' => ∃ a, r = some (.int a) ∧ R_keep p1 p2 p3 a) := by
  rcases zcase4 p2 with rfl | rfl | rfl | rfl | rfl | hd
  all_goals refine zK_of qX7_keep (by decide +kernel) rfl ?_
  · iterate 2 (refine zv_step (bX7_keep 3) rfl rfl trivial ?_)
    refine zv_ift (by decide) ?_
    iterate 4 (refine zv_step (bX7_keep 3) rfl rfl trivial ?_)
    refine zv_S1 (bX7_keep 3) rfl rfl rfl rfl ⟨rfl, rfl, rfl⟩ ⟨by decide, by decide⟩ ⟨Nat.zero_le _, Nat.zero_le _⟩ (hX7_isShelf _ _) ?_
    rintro _ _ ⟨rfl, ⟨hh, rfl⟩ | ⟨hh, rfl⟩⟩
    · iterate 1 (refine zv_step (bX7_keep 3) rfl rfl trivial ?_)
      refine zv_iff (by decide) ?_
      iterate 2 (refine zv_step (bX7_keep 3) rfl rfl trivial ?_)
      refine zv_ift (by decide) ?_
      iterate 1 (refine zv_step (bX7_keep 3) rfl rfl trivial ?_)
      refine zv_getf (bX7_keep 3) rfl ((h _ (by decide)).trans rfl) rfl ?_
      iterate 2 (refine zv_step (bX7_keep 3) rfl rfl trivial ?_)
      refine zv_iast (bX7_keep 3) rfl ((h _ (by decide)).trans rfl) (vp_in_iff.mpr ⟨hh.1, Int.lt_of_le_of_lt hh.2 (by decide)⟩) ?_
      iterate 3 (refine zv_step (bX7_keep 3) rfl rfl trivial ?_)
      refine zv_ift (by decide) ?_
      iterate 3 (refine zv_step (bX7_keep 3) rfl rfl trivial ?_)
      refine zv_ift (by decide) ?_
      iterate 3 (refine zv_step (bX7_keep 3) rfl rfl trivial ?_)
      refine zv_ift (by decide) ?_
      iterate 1 (refine zv_step (bX7_keep 3) rfl rfl trivial ?_)
      exact zv_iret (bX7_keep 3) rfl (Or.inl rfl) (Nat.zero_le _) (Nat.zero_le _) ⟨_, rfl, Or.inl ⟨⟨hh, Or.inl rfl⟩, rfl⟩⟩
    · iterate 1 (refine zv_step (bX7_keep 3) rfl rfl trivial ?_)
      refine zv_ift (by decide) ?_
      iterate 1 (refine zv_step (bX7_keep 3) rfl rfl trivial ?_)
      exact zv_iret (bX7_keep 3) rfl (Or.inl rfl) (Nat.zero_le _) (Nat.zero_le _) ⟨_, rfl, Or.inr ⟨(by omega), rfl⟩⟩
  · iterate 2 (refine zv_step (bX7_keep 3) rfl rfl trivial ?_)
    refine zv_iff (by decide) ?_
    iterate 3 (refine zv_step (bX7_keep 3) rfl rfl trivial ?_)
    refine zv_iff (by decide) ?_
    iterate 3 (refine zv_step (bX7_keep 3) rfl rfl trivial ?_)
    refine zv_ift (by decide) ?_
    iterate 2 (refine zv_step (bX7_keep 3) rfl rfl trivial ?_)
    refine zv_V1 (bX7_keep 3) rfl rfl rfl ((h _ (by decide)).trans rfl) rfl rfl rfl ⟨rfl, rfl, rfl⟩ ⟨by decide, by decide⟩ ⟨Nat.zero_le _, Nat.zero_le _⟩ (mNode _ h) ?_
    rintro _ w9 ⟨hw9, rfl⟩
    subst hw9
    iterate 1 (refine zv_step (bX7_keep 3) rfl rfl trivial ?_)
    refine zv_ift (by decide) ?_
    iterate 3 (refine zv_step (bX7_keep 3) rfl rfl trivial ?_)
    refine zv_S1 (bX7_keep 3) rfl rfl rfl rfl ⟨rfl, rfl, rfl⟩ ⟨by decide, by decide⟩ ⟨Nat.zero_le _, Nat.zero_le _⟩ (hX7_isShelf _ _) ?_
    rintro _ _ ⟨rfl, ⟨hh, rfl⟩ | ⟨hh, rfl⟩⟩
    · iterate 1 (refine zv_step (bX7_keep 3) rfl rfl trivial ?_)
      refine zv_iff (by decide) ?_
      iterate 2 (refine zv_step (bX7_keep 3) rfl rfl trivial ?_)
      refine zv_iff (by decide) ?_
      iterate 1 (refine zv_step (bX7_keep 3) rfl rfl trivial ?_)
      exact zv_iret (bX7_keep 3) rfl (Or.inl rfl) (Nat.zero_le _) (Nat.zero_le _) ⟨_, rfl, Or.inr ⟨(by rintro ⟨-, q | q⟩ <;> exact absurd q (by decide)), rfl⟩⟩
    · iterate 1 (refine zv_step (bX7_keep 3) rfl rfl trivial ?_)
      refine zv_ift (by decide) ?_
      iterate 1 (refine zv_step (bX7_keep 3) rfl rfl trivial ?_)
      exact zv_iret (bX7_keep 3) rfl (Or.inl rfl) (Nat.zero_le _) (Nat.zero_le _) ⟨_, rfl, Or.inr ⟨(by rintro ⟨-, q | q⟩ <;> exact absurd q (by decide)), rfl⟩⟩
  · iterate 2 (refine zv_step (bX7_keep 3) rfl rfl trivial ?_)
    refine zv_iff (by decide) ?_
    iterate 3 (refine zv_step (bX7_keep 3) rfl rfl trivial ?_)
    refine zv_iff (by decide) ?_
    iterate 3 (refine zv_step (bX7_keep 3) rfl rfl trivial ?_)
    refine zv_iff (by decide) ?_
    iterate 3 (refine zv_step (bX7_keep 3) rfl rfl trivial ?_)
    refine zv_ift (by decide) ?_
    iterate 3 (refine zv_step (bX7_keep 3) rfl rfl trivial ?_)
    refine zv_S1 (bX7_keep 3) rfl rfl rfl rfl ⟨rfl, rfl, rfl⟩ ⟨by decide, by decide⟩ ⟨Nat.zero_le _, Nat.zero_le _⟩ (hX7_isShelf _ _) ?_
    rintro _ _ ⟨rfl, ⟨hh, rfl⟩ | ⟨hh, rfl⟩⟩
    · iterate 1 (refine zv_step (bX7_keep 3) rfl rfl trivial ?_)
      refine zv_iff (by decide) ?_
      iterate 2 (refine zv_step (bX7_keep 3) rfl rfl trivial ?_)
      refine zv_iff (by decide) ?_
      iterate 1 (refine zv_step (bX7_keep 3) rfl rfl trivial ?_)
      exact zv_iret (bX7_keep 3) rfl (Or.inl rfl) (Nat.zero_le _) (Nat.zero_le _) ⟨_, rfl, Or.inr ⟨(by rintro ⟨-, q | q⟩ <;> exact absurd q (by decide)), rfl⟩⟩
    · iterate 1 (refine zv_step (bX7_keep 3) rfl rfl trivial ?_)
      refine zv_ift (by decide) ?_
      iterate 1 (refine zv_step (bX7_keep 3) rfl rfl trivial ?_)
      exact zv_iret (bX7_keep 3) rfl (Or.inl rfl) (Nat.zero_le _) (Nat.zero_le _) ⟨_, rfl, Or.inr ⟨(by rintro ⟨-, q | q⟩ <;> exact absurd q (by decide)), rfl⟩⟩
  · iterate 2 (refine zv_step (bX7_keep 3) rfl rfl trivial ?_)
    refine zv_iff (by decide) ?_
    iterate 3 (refine zv_step (bX7_keep 3) rfl rfl trivial ?_)
    refine zv_ift (by decide) ?_
    iterate 4 (refine zv_step (bX7_keep 3) rfl rfl trivial ?_)
    refine zv_S1 (bX7_keep 3) rfl rfl rfl rfl ⟨rfl, rfl, rfl⟩ ⟨by decide, by decide⟩ ⟨Nat.zero_le _, Nat.zero_le _⟩ (hX7_isShelf _ _) ?_
    rintro _ _ ⟨rfl, ⟨hh, rfl⟩ | ⟨hh, rfl⟩⟩
    · iterate 1 (refine zv_step (bX7_keep 3) rfl rfl trivial ?_)
      refine zv_iff (by decide) ?_
      iterate 2 (refine zv_step (bX7_keep 3) rfl rfl trivial ?_)
      refine zv_ift (by decide) ?_
      iterate 1 (refine zv_step (bX7_keep 3) rfl rfl trivial ?_)
      refine zv_getf (bX7_keep 3) rfl ((h _ (by decide)).trans rfl) rfl ?_
      iterate 2 (refine zv_step (bX7_keep 3) rfl rfl trivial ?_)
      refine zv_iast (bX7_keep 3) rfl ((h _ (by decide)).trans rfl) (vp_in_iff.mpr ⟨hh.1, Int.lt_of_le_of_lt hh.2 (by decide)⟩) ?_
      iterate 3 (refine zv_step (bX7_keep 3) rfl rfl trivial ?_)
      refine zv_ift (by decide) ?_
      iterate 3 (refine zv_step (bX7_keep 3) rfl rfl trivial ?_)
      refine zv_iff (by decide) ?_
      iterate 1 (refine zv_step (bX7_keep 3) rfl rfl trivial ?_)
      refine zv_getf (bX7_keep 3) rfl ((List.getElem?_set_ne (by decide)).trans ((h _ (by decide)).trans rfl)) rfl ?_
      iterate 2 (refine zv_step (bX7_keep 3) rfl rfl trivial ?_)
      refine zv_getf (bX7_keep 3) rfl ((List.getElem?_set_ne (by decide)).trans ((h _ (by decide)).trans rfl)) rfl ?_
      refine zv_iast (bX7_keep 3) rfl ((List.getElem?_set_ne (by decide)).trans ((h _ (by decide)).trans rfl)) (vp_in_iff.mpr ⟨hh.1, Int.lt_of_le_of_lt hh.2 (by decide)⟩) ?_
      iterate 4 (refine zv_step (bX7_keep 3) rfl rfl trivial ?_)
      refine zv_getf (bX7_keep 3) rfl ((List.getElem?_set_ne (by decide)).trans ((List.getElem?_set_ne (by decide)).trans ((h _ (by decide)).trans rfl))) rfl ?_
      iterate 1 (refine zv_step (bX7_keep 3) rfl rfl trivial ?_)
      refine zv_ift (by decide) ?_
      iterate 2 (refine zv_step (bX7_keep 3) rfl rfl trivial ?_)
      exact zv_iret (bX7_keep 3) rfl (Or.inl rfl) (Nat.zero_le _) (Nat.zero_le _) ⟨_, rfl, Or.inl ⟨⟨hh, Or.inr rfl⟩, rfl⟩⟩
    · iterate 1 (refine zv_step (bX7_keep 3) rfl rfl trivial ?_)
      refine zv_ift (by decide) ?_
      iterate 1 (refine zv_step (bX7_keep 3) rfl rfl trivial ?_)
      exact zv_iret (bX7_keep 3) rfl (Or.inl rfl) (Nat.zero_le _) (Nat.zero_le _) ⟨_, rfl, Or.inr ⟨(by omega), rfl⟩⟩
  · iterate 2 (refine zv_step (bX7_keep 3) rfl rfl trivial ?_)
    refine zv_iff (by decide) ?_
    iterate 3 (refine zv_step (bX7_keep 3) rfl rfl trivial ?_)
    refine zv_iff (by decide) ?_
    iterate 3 (refine zv_step (bX7_keep 3) rfl rfl trivial ?_)
    refine zv_iff (by decide) ?_
    iterate 3 (refine zv_step (bX7_keep 3) rfl rfl trivial ?_)
    refine zv_iff (by decide) ?_
    iterate 2 (refine zv_step (bX7_keep 3) rfl rfl trivial ?_)
    refine zv_V1 (bX7_keep 3) rfl rfl rfl ((h _ (by decide)).trans rfl) rfl rfl rfl ⟨rfl, rfl, rfl⟩ ⟨by decide, by decide⟩ ⟨Nat.zero_le _, Nat.zero_le _⟩ (mNode _ h) ?_
    rintro _ w9 ⟨hw9, rfl⟩
    subst hw9
    iterate 1 (refine zv_step (bX7_keep 3) rfl rfl trivial ?_)
    refine zv_ift (by decide) ?_
    iterate 3 (refine zv_step (bX7_keep 3) rfl rfl trivial ?_)
    refine zv_S1 (bX7_keep 3) rfl rfl rfl rfl ⟨rfl, rfl, rfl⟩ ⟨by decide, by decide⟩ ⟨Nat.zero_le _, Nat.zero_le _⟩ (hX7_isShelf _ _) ?_
    rintro _ _ ⟨rfl, ⟨hh, rfl⟩ | ⟨hh, rfl⟩⟩
    · iterate 1 (refine zv_step (bX7_keep 3) rfl rfl trivial ?_)
      refine zv_iff (by decide) ?_
      iterate 2 (refine zv_step (bX7_keep 3) rfl rfl trivial ?_)
      refine zv_iff (by decide) ?_
      iterate 1 (refine zv_step (bX7_keep 3) rfl rfl trivial ?_)
      exact zv_iret (bX7_keep 3) rfl (Or.inl rfl) (Nat.zero_le _) (Nat.zero_le _) ⟨_, rfl, Or.inr ⟨(by rintro ⟨-, q | q⟩ <;> exact absurd q (by decide)), rfl⟩⟩
    · iterate 1 (refine zv_step (bX7_keep 3) rfl rfl trivial ?_)
      refine zv_ift (by decide) ?_
      iterate 1 (refine zv_step (bX7_keep 3) rfl rfl trivial ?_)
      exact zv_iret (bX7_keep 3) rfl (Or.inl rfl) (Nat.zero_le _) (Nat.zero_le _) ⟨_, rfl, Or.inr ⟨(by rintro ⟨-, q | q⟩ <;> exact absurd q (by decide)), rfl⟩⟩
  · iterate 2 (refine zv_step (bX7_keep 3) rfl rfl trivial ?_)
    refine zv_iff (by intro q; rw [q] at hd; exact absurd hd (by decide)) ?_
    iterate 3 (refine zv_step (bX7_keep 3) rfl rfl trivial ?_)
    refine zv_iff (by intro q; rw [q] at hd; exact absurd hd (by decide)) ?_
    iterate 3 (refine zv_step (bX7_keep 3) rfl rfl trivial ?_)
    refine zv_iff (by intro q; rw [q] at hd; exact absurd hd (by decide)) ?_
    iterate 3 (refine zv_step (bX7_keep 3) rfl rfl trivial ?_)
    refine zv_ift (by intro q; rw [q] at hd; exact absurd hd (by decide)) ?_
    iterate 3 (refine zv_step (bX7_keep 3) rfl rfl trivial ?_)
    refine zv_S1 (bX7_keep 3) rfl rfl rfl rfl ⟨rfl, rfl, rfl⟩ ⟨by decide, by decide⟩ ⟨Nat.zero_le _, Nat.zero_le _⟩ (hX7_isShelf _ _) ?_
    rintro _ _ ⟨rfl, ⟨hh, rfl⟩ | ⟨hh, rfl⟩⟩
    · iterate 1 (refine zv_step (bX7_keep 3) rfl rfl trivial ?_)
      refine zv_iff (by decide) ?_
      iterate 2 (refine zv_step (bX7_keep 3) rfl rfl trivial ?_)
      refine zv_iff (by decide) ?_
      iterate 1 (refine zv_step (bX7_keep 3) rfl rfl trivial ?_)
      exact zv_iret (bX7_keep 3) rfl (Or.inl rfl) (Nat.zero_le _) (Nat.zero_le _) ⟨_, rfl, Or.inr ⟨(by omega), rfl⟩⟩
    · iterate 1 (refine zv_step (bX7_keep 3) rfl rfl trivial ?_)
      refine zv_ift (by decide) ?_
      iterate 1 (refine zv_step (bX7_keep 3) rfl rfl trivial ?_)
      exact zv_iret (bX7_keep 3) rfl (Or.inl rfl) (Nat.zero_le _) (Nat.zero_le _) ⟨_, rfl, Or.inr ⟨(by omega), rfl⟩⟩
