theorem zG_tbl {x : Cond} (h : x ∈ zG) : x ∈ lw_tbl := (List.mem_filter.mp h).1
set_option maxRecDepth 100000 in
theorem lw_th {b : Nat} {s : State} (hts : ∀ w ∈ lw_tbl, w.before #[Value.ref b] s = true) (hgv : (Jvm.Cond.and given_1 narrow_1).before #[Value.ref b] s = true) : zTh (fun q : Nat => s.heap.size ≤ q) s s.heap := by
  have hs := flat_of_before _ hgv
  have hA : ∀ a : Nat, a < s.heap.size → ¬ (fun q : Nat => s.heap.size ≤ q) a := fun a h => Nat.not_le.mpr h
  have mem : ∀ (i : Nat) {x : Cond}, tables_1[i]? = some x → x.before #[Value.ref b] s = true := fun i x h => hts x (List.mem_append_right _ (List.mem_of_getElem? h))
  have str : ∀ (k : Nat) (tx : String), (Cond.stringRef RX6 k tx).before #[Value.ref b] s = true → (Cond.exactly (.string RX6 k) "java/lang/String").before #[Value.ref b] s = true → ∃ a, vk_R RX6 k tx a s := fun k tx h1 h2 => by
    obtain ⟨a, c, cA, kA, q1, -⟩ := Cond.exactly_spec (args := #[Value.ref b]) (first := s) (o := none) (s := s) (idx := []) (t := .string RX6 k) (cls := "java/lang/String") h2
    exact ⟨a, vk_R.of h1 q1⟩
  exact ⟨vx_Zqof (mem 713 rfl) (mem 10 rfl) (hs _ (by decide +kernel)) hA, vx_Zqof (mem 715 rfl) (mem 10 rfl) (hs _ (by decide +kernel)) hA, str 171 _ (mem 726 rfl) (hs _ (by decide +kernel)), str 262 _ (mem 791 rfl) (hs _ (by decide +kernel)), str 267 _ (mem 792 rfl) (hs _ (by decide +kernel)), str 272 _ (mem 793 rfl) (hs _ (by decide +kernel)), str 224 _ (mem 770 rfl) (hs _ (by decide +kernel)), va_Nw.of rfl (mem 688 rfl), va_Nw.of rfl (mem 763 rfl), va_Nc.of (hs _ (by decide +kernel))⟩
theorem whole_start {p : Program} {e : Env} {s : State} {m : MethodId} {below : List Frame} {meth : Method} {c : Code} (l : Launch) (h9t : l.stackTraces = false) {b L : Nat} {xs : Nat → Int32} (hL : L ≤ 3072) (C0 : lw_At p s m meth c b L xs) : W p l e room_1 s m #[Value.ref b] below meth c s.heap [] 0 0 (lw_Z below #[Value.ref b] s) (entryFrame m ([Value.ref b] : List Value).toArray 8) := by
  obtain ⟨hx, hb, hr, hml, hown, hts, hX, hbl, hlocks, hgv⟩ := id C0
  have hA : ∀ q : Nat, s.heap.size ≤ q → (fun q : Nat => s.heap.size ≤ q) q := fun _ h => h
  have hbA : ¬ (fun q : Nat => s.heap.size ≤ q) b := Nat.not_le.mpr hbl
  have htg : ∀ w ∈ zG, w.before #[Value.ref b] s = true := fun w h => hts w (zG_tbl h)
  obtain ⟨c0, iS0, hKn0⟩ := u_known (C := RX0) (T := TX0) (N := 6) (n := 6) htg zin0 (htg _ zIn0.1)
  obtain ⟨c1, iS1, hKn1⟩ := u_known (C := RX2) (T := TX2) (N := 13) (n := 13) htg zin1 (htg _ zIn1.1)
  obtain ⟨c2, iS2, hKn2⟩ := u_known (C := RX3) (T := TX3) (N := 6) (n := 6) htg zin2 (htg _ zIn2.1)
  obtain ⟨c3, iS3, hKn3⟩ := u_known (C := RX4) (T := TX4) (N := 4) (n := 4) htg zin3 (htg _ zIn3.1)
  obtain ⟨c4, iS4, hKn4⟩ := u_known (C := RX5) (T := TX5) (N := 4) (n := 4) htg zin4 (htg _ zIn4.1)
  obtain ⟨c5, iS5, hKn5⟩ := u_known (C := RX6) (T := TX6) (N := 9) (n := 9) htg zin5 (htg _ zIn5.1)
  obtain ⟨c6, iS6, hKn6⟩ := u_known (C := RX7) (T := TX7) (N := 35) (n := 35) htg zin6 (htg _ zIn6.1)
  obtain ⟨dC, dI, hKc⟩ : ∃ (dC : Nat → ClassId) (dI : Nat → Nat → Nat), ∀ (k : Nat) (q : vw_C), vwCl[k]? = some q → u_Kn s q.1 q.2.1 q.2.2 (dC k) (dI k) := by
    refine ⟨fun k => match k with | 0 => c0 | 1 => c1 | 2 => c2 | 3 => c3 | 4 => c4 | 5 => c5 | _ => c6, fun k => match k with | 0 => iS0 | 1 => iS1 | 2 => iS2 | 3 => iS3 | 4 => iS4 | 5 => iS5 | _ => iS6, ?_⟩
    intro k q hq
    match k, zlt7 hq, hq with
    | 0, _, hq => cases hq; exact hKn0
    | 1, _, hq => cases hq; exact hKn1
    | 2, _, hq => cases hq; exact hKn2
    | 3, _, hq => cases hq; exact hKn3
    | 4, _, hq => cases hq; exact hKn4
    | 5, _, hq => cases hq; exact hKn5
    | 6, _, hq => cases hq; exact hKn6
  have hovS : (Cond.arrayOver (.object RX3)).before #[] s = true := hts (.arrayOver (.object RX3)) (by decide +kernel)
  have hovJ : (Cond.arrayOver (.array .long)).before #[] s = true := hts (.arrayOver (.array .long)) (by decide +kernel)
  have hI : ∃ cA, ArrOfT s cA .int ∧ va_RA s cA .int := by
    obtain ⟨cA, k, comp, h1, h2, h3⟩ := Cond.arrayClass_spec (htg _ zAI)
    exact ⟨cA, fun n z => ⟨fun q h => (by cases h), k, h2, comp, h3⟩, h1⟩
  have hZ : ∃ cA, ArrOfT s cA .boolean ∧ va_RA s cA .boolean := by
    obtain ⟨cA, k, comp, h1, h2, h3⟩ := Cond.arrayClass_spec (htg _ zAZ)
    exact ⟨cA, fun n z => ⟨fun q h => (by cases h), k, h2, comp, h3⟩, h1⟩
  have hJ : ∃ cA, ArrOfT s cA .long ∧ va_RA s cA .long := by
    obtain ⟨cA, k, comp, h1, h2, h3⟩ := Cond.arrayClass_spec (htg _ zAJ)
    exact ⟨cA, fun n z => ⟨fun q h => (by cases h), k, h2, comp, h3⟩, h1⟩
  have hO : ∃ cA, ArrOfT s cA (.object RX3) ∧ va_RA s cA (.object RX3) := by
    obtain ⟨comp, cA, k, h1, h2, h3, h4, h5⟩ := Cond.arrayOver_spec hovS
    exact ⟨cA, fun n z => ⟨fun q h => (by cases h), k, h3, comp, h4⟩, k, comp, h3, h4, h1, h5⟩
  have hG : ∃ cA, ArrOfT s cA (.array .long) ∧ va_RA s cA (.array .long) := by
    obtain ⟨comp, cA, k, h1, h2, h3, h4, h5⟩ := Jvm.Stand.arrayOver_specB hovJ
    exact ⟨cA, fun n z => ⟨fun q h => (by cases h), k, h3, comp, h4⟩, h5⟩
  obtain ⟨d0, hd0⟩ := hI
  obtain ⟨d1, hd1⟩ := hZ
  obtain ⟨d2, hd2⟩ := hJ
  obtain ⟨d3, hd3⟩ := hO
  obtain ⟨d4, hd4⟩ := hG
  obtain ⟨dA, hdA⟩ : ∃ dA : Nat → ClassId, ∀ (k : Nat) (q : ClassId × FieldType), (ztys dA)[k]? = some q → ArrOfT s q.1 q.2 ∧ va_RA s q.1 q.2 := by
    refine ⟨fun k => match k with | 0 => d0 | 1 => d1 | 2 => d2 | 3 => d3 | _ => d4, ?_⟩
    intro k q hq
    have hk : k < 5 := (List.getElem?_eq_some_iff.mp hq).1
    match k, hk, hq with
    | 0, _, hq => cases hq; exact hd0
    | 1, _, hq => cases hq; exact hd1
    | 2, _, hq => cases hq; exact hd2
    | 3, _, hq => cases hq; exact hd3
    | 4, _, hq => cases hq; exact hd4
  have hl := lv_entry ([.ref b]) (n := 8) (Nat.le_of_ble_eq_true rfl)
  rw [lg_entry_eq]
  generalize (lg_sl ([.ref b]) ++ List.replicate (8 - (lg_sl ([.ref b])).length) Slot.unset).toArray = ls at hl ⊢
  refine law_all hL p l e s m #[Value.ref b] below meth c dC dI dA (fun _ => b) (fun q => s.heap.size ≤ q) (lw_Z below #[Value.ref b] s) h9t ⟨hx, hb, hml, hown, htg, ⟨⟨hKc, hdA⟩, hovS, hovJ⟩, hA, (fun h => by cases h), rfl, hX, hbl, hbA, lw_th hts hgv⟩ ?_ (fun _ => b) s.heap [] ls ⟨fun _ => rfl, fun _ _ => rfl, fun k q h => (by simp [zw] at h), ⟨fun i j p q h => (by simp [zw] at h), fun k q h => (by simp [zw] at h)⟩, va_S.rf⟩ hl
  intro ad H locs kc ks pc ls v w hrel hq hkc hks hrt
  subst hq
  refine va_forget (fun q hq => hrel.2.2.2.2.2.2 q hq) ?_
  refine W.widen hkc hks ?_
  exact lw_ret hx hb hr hlocks hrt.2
