theorem hb764 : ∀ k, k < 10 → hbW (Int16.ofInt 764).toInt32 (nI k) = nI (if mayN k = true then 1 else 0) := by decide +kernel
/-- how many could be KEPT, as the class counts it -/
theorem ch_kb {u : Nat} (hu : u ≤ 120) {P A : Nat → Nat → Int32} (hT : tbI 0 u A) (hN : NR u P A) : ∀ (z : Nat) (x : Int32), pt 0 u A z x → pvI (P 9) (cvI x) = nI (kbW A z x)
  | 0, x, h => by
    obtain rfl := pt_zero hT h
    rw [cvI_m2, pvI_m1]
    rfl
  | z + 1, x, h => by
    rcases h with rfl | ⟨n, rfl, hlo, hn, hz⟩
    · rw [cvI_m2, pvI_m1, kbW_m2]
      rfl
    · obtain ⟨p2, p3⟩ := rN_parts hT hlo hn hz
      obtain ⟨k, hk, h0⟩ := rN_kd (hT n hlo hn)
      obtain ⟨n1, n2, n3, n4, n5, n6, n7, n8⟩ := hN n hn
      rw [cvI_nI (by omega), pvI_nI _ (by omega), n8.2.1, n1, n3, n4, ch_kb hu hT hN z _ p2, ch_kb hu hT hN z _ p3, h0, hb764 k hk, kbW_nI (by omega) hk h0, nI_add, nI_add]
theorem oa0 (a b f : Int32) : (a ||| b) &&& f = 0 ↔ (a &&& f = 0 ∧ b &&& f = 0) := by
  have e : (a ||| b) &&& f = (a &&& f) ||| (b &&& f) := by
    apply Int32.toBitVec_inj.mp
    simp only [Int32.toBitVec_and, Int32.toBitVec_or]
    apply BitVec.eq_of_getLsbD_eq
    intro i hi
    simp only [BitVec.getLsbD_and, BitVec.getLsbD_or]
    cases a.toBitVec.getLsbD i <;> cases b.toBitVec.getLsbD i <;> cases f.toBitVec.getLsbD i <;> rfl
  rw [e]
  constructor
  · intro h
    have hb : (a &&& f).toBitVec ||| (b &&& f).toBitVec = 0#32 := by
      rw [← Int32.toBitVec_or, h]
      rfl
    constructor
    · apply Int32.toBitVec_inj.mp
      apply BitVec.eq_of_getLsbD_eq
      intro i hi
      have := congrArg (fun v => v.getLsbD i) hb
      simp only [BitVec.getLsbD_or, BitVec.getLsbD_zero] at this
      show _ = (0#32).getLsbD i
      rw [BitVec.getLsbD_zero]
      cases q : (a &&& f).toBitVec.getLsbD i
      · rfl
      · rw [q] at this
        simp at this
    · apply Int32.toBitVec_inj.mp
      apply BitVec.eq_of_getLsbD_eq
      intro i hi
      have := congrArg (fun v => v.getLsbD i) hb
      simp only [BitVec.getLsbD_or, BitVec.getLsbD_zero] at this
      show _ = (0#32).getLsbD i
      rw [BitVec.getLsbD_zero]
      cases q : (b &&& f).toBitVec.getLsbD i
      · rfl
      · rw [q] at this
        simp at this
  · rintro ⟨h1, h2⟩
    rw [h1, h2]
    rfl
theorem za (f : Int32) : (0 : Int32) &&& f = 0 := Int32.zero_and
set_option maxRecDepth 100000 in
theorem le_b : ∀ m, m < 1024 → ∀ v, v < 10 → (nI (2 ^ v) &&& nI m = 0 ↔ m.testBit v = false) := by decide +kernel
set_option maxRecDepth 100000 in
theorem ca_b : ∀ m, m < 1024 → ∀ v, v < 10 → (nI (2 ^ v) &&& (nI m ^^^ Int32.ofInt (-1)) = 0 ↔ m.testBit v = true) := by decide +kernel
/-- whether a NODE is RIGHT, as the class tells it -/
theorem rt_bits {u : Nat} (hu : u ≤ 120) {P A : Nat → Nat → Int32} (hT : tbI 0 u A) (hN : NR u P A) {m : Nat} (hm : m < 1024) (hf : ∀ v, v < 10 → A 6 v = bt m v) : ∀ (z : Nat) (x : Int32), pt 0 u A z x → ((pvI (P 10) (cvI x) &&& nI m = 0 ∧ pvI (P 11) (cvI x) &&& (nI m ^^^ Int32.ofInt (-1)) = 0) ↔ rtW A z x)
  | 0, x, h => by
    obtain rfl := pt_zero hT h
    rw [cvI_m2, pvI_m1, pvI_m1]
    exact ⟨fun _ => trivial, fun _ => ⟨za _, za _⟩⟩
  | z + 1, x, h => by
    rcases h with rfl | ⟨n, rfl, hlo, hn, hz⟩
    · rw [cvI_m2, pvI_m1, pvI_m1]
      exact ⟨fun _ => rtW_m2 A _, fun _ => ⟨za _, za _⟩⟩
    · obtain ⟨p2, p3⟩ := rN_parts hT hlo hn hz
      obtain ⟨k, h0, hk, hs, h40, hv⟩ := rN_val (hT n hlo hn)
      obtain ⟨n1, n2, n3, n4, n5, n6, n7, n8⟩ := hN n hn
      have i2 := rt_bits hu hT hN hm hf z _ p2
      have i3 := rt_bits hu hT hN hm hf z _ p3
      rw [cvI_nI (by omega), pvI_nI _ (by omega), pvI_nI _ (by omega), n8.2.2.1, n8.2.2.2, n1, n3, n4, oa0, oa0, oa0, oa0, rtW_i (by omega), ← i2, ← i3]
      have own : (leW (A 0 n) (P 3 n) &&& nI m = 0 ∧ caW (A 0 n) (P 3 n) &&& (nI m ^^^ Int32.ofInt (-1)) = 0) ↔ rtO A n := by
        unfold leW caW rtO
        rw [h0]
        have nk : ∀ j, j < 10 → (nI k = nI j ↔ k = j) := fun j hj => nI_eq (by omega) (by omega)
        have z0 : Int32.ofInt 0 = (0 : Int32) := by decide
        by_cases e0 : k = 0
        · subst e0
          obtain ⟨v, hv9, e⟩ := hv.1 (Or.inl rfl)
          rw [if_pos (show nI 0 = 0 from rfl), if_neg (show ¬ nI 0 = c8 9 by decide), n2, e, cvI_nI (by omega), shl_k v (by omega), z0, nI_clamp (by omega), hf v (by omega)]
          constructor
          · rintro ⟨q, _⟩
            refine ⟨fun _ => ?_, fun w => absurd w (by decide)⟩
            unfold bt
            rw [(le_b m hm v (by omega)).mp q]
            rfl
          · rintro ⟨q, _⟩
            refine ⟨(le_b m hm v (by omega)).mpr ?_, za _⟩
            have := q rfl
            unfold bt at this
            cases w : m.testBit v with
            | false => rfl
            | true =>
              rw [w, if_pos rfl] at this
              exact absurd this (by decide)
        · rw [if_neg (show ¬ nI k = 0 from fun q => e0 ((nk 0 (by decide)).mp q))]
          by_cases e9 : k = 9
          · subst e9
            obtain ⟨v, hv9, e⟩ := hv.1 (Or.inr rfl)
            rw [if_pos (show nI 9 = c8 9 from rfl), n2, e, cvI_nI (by omega), shl_k v (by omega), z0, nI_clamp (by omega), hf v (by omega)]
            constructor
            · rintro ⟨_, q⟩
              refine ⟨fun w => absurd w (by decide), fun _ => ?_⟩
              unfold bt
              rw [(ca_b m hm v (by omega)).mp q]
              decide
            · rintro ⟨_, q⟩
              refine ⟨za _, (ca_b m hm v (by omega)).mpr ?_⟩
              have := q rfl
              unfold bt at this
              cases w : m.testBit v with
              | true => rfl
              | false =>
                rw [w, if_neg (by decide)] at this
                exact absurd rfl this
          · rw [if_neg (show ¬ nI k = c8 9 from fun q => e9 ((nk 9 (by decide)).mp q)), z0]
            exact ⟨fun _ => ⟨fun q => absurd ((nk 0 (by decide)).mp q) e0, fun q => absurd ((nk 9 (by decide)).mp q) e9⟩, fun _ => ⟨za _, za _⟩⟩
      rw [← own]
      constructor
      · rintro ⟨⟨⟨a1, a2⟩, a3⟩, ⟨b1, b2⟩, b3⟩
        exact ⟨⟨a1, b1⟩, ⟨a2, b2⟩, a3, b3⟩
      · rintro ⟨⟨a1, b1⟩, ⟨a2, b2⟩, a3, b3⟩
        exact ⟨⟨⟨a1, a2⟩, a3⟩, ⟨b1, b2⟩, b3⟩
