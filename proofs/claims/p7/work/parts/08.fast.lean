/-! the bytes of a method read once, from its first to its last: what decode says of each instruction -/
def zlk {α : Type} : List (Nat × α) → Nat → Option α
  | [], _ => none
  | e :: t, v => bif Nat.beq e.1 v then some e.2 else zlk t v
theorem zlkm {α : Type} {v : Nat} {a : α} : ∀ {L : List (Nat × α)}, zlk L v = some a → (v, a) ∈ L
  | [], h => by cases h
  | q :: l, h => by
    unfold zlk at h
    cases hb : Nat.beq q.1 v with
    | true =>
      rw [hb] at h
      have e := Nat.eq_of_beq_eq_true hb
      have h2 : q.2 = a := Option.some.inj h
      rw [← e, ← h2]
      exact List.mem_cons_self
    | false =>
      rw [hb] at h
      exact List.mem_cons_of_mem _ (zlkm h)
def zgo2 : { G : Nat → Nat → Decoder Instr // ∀ pc, Decoder.instr pc = (Reader.u1 >>= G pc) } := ⟨_, fun _ => rfl⟩
theorem zdu1 {code : ByteArray} {p v : Nat} (h : (Reader.u1 : Decoder Nat) code p = .ok (v, p + 1)) {i : Instr} {q : Nat} (h2 : zgo2.1 p v code (p + 1) = .ok (i, q)) : decode code p = .ok (i, q - p) := by
  unfold decode Reader.runAt
  rw [zgo2.2 p]
  show Except.bind (Except.bind ((Reader.u1 : Decoder Nat) code p) (fun x => zgo2.1 p x.1 code x.2)) (fun y => .ok (y.1, y.2 - p)) = _
  rw [h]
  show Except.bind (zgo2.1 p v code (p + 1)) (fun y => .ok (y.1, y.2 - p)) = _
  rw [h2]
  rfl
theorem zu1 {code : ByteArray} {p : Nat} {b : UInt8} {t : List UInt8} (h : code.data.toList.drop p = b :: t) : (Reader.u1 : Decoder Nat) code p = .ok (b.toNat, p + 1) := by
  have h0 : code.data.toList[p]? = some b := by
    have e : (code.data.toList.drop p)[0]? = code.data.toList[p + 0]? := List.getElem?_drop
    rw [h] at e
    exact e.symm
  obtain ⟨hp, e⟩ := List.getElem?_eq_some_iff.mp h0
  have hs : p < code.size := hp
  have e2 : (Reader.u1 : Decoder Nat) code p = (dite (p < code.size) (fun h => (do set (p + 1); pure code[p].toNat : Decoder Nat)) (fun _ => throw (HasTruncated.truncated p))) code p := rfl
  rw [e2, dif_pos hs]
  show Except.ok (code[p].toNat, p + 1) = _
  have e3 : code[p] = b := e
  rw [e3]
theorem zrunX {α : Type} {code : ByteArray} {q q2 : Nat} {r : Decoder α} {a : α} (h : r code q = .ok (a, q2)) (f : α → Instr) : (r >>= fun x => (pure (f x) : Decoder Instr)) code q = .ok (f a, q2) := by
  show Except.bind (r code q) (fun x => .ok (f x.1, x.2)) = _
  rw [h]
  rfl
theorem zs1 {code : ByteArray} {q v : Nat} (h : (Reader.u1 : Decoder Nat) code q = .ok (v, q + 1)) : (Reader.s1 : Decoder Int) code q = .ok (Reader.signed 8 v, q + 1) := by
  show Except.bind ((Reader.u1 : Decoder Nat) code q) (fun x => .ok (Reader.signed 8 x.1, x.2)) = _
  rw [h]
  rfl
theorem zu2 {code : ByteArray} {q v w : Nat} (h : (Reader.u1 : Decoder Nat) code q = .ok (v, q + 1)) (k : (Reader.u1 : Decoder Nat) code (q + 1) = .ok (w, q + 2)) : (Reader.u2 : Decoder Nat) code q = .ok (v * 256 + w, q + 2) := by
  show Except.bind ((Reader.u1 : Decoder Nat) code q) (fun x => Except.bind ((Reader.u1 : Decoder Nat) code x.2) (fun y => .ok (x.1 * 256 + y.1, y.2))) = _
  rw [h]
  show Except.bind ((Reader.u1 : Decoder Nat) code (q + 1)) (fun y => .ok (v * 256 + y.1, y.2)) = _
  rw [k]
  rfl
theorem zs2 {code : ByteArray} {q v q2 : Nat} (h : (Reader.u2 : Decoder Nat) code q = .ok (v, q2)) : (Reader.s2 : Decoder Int) code q = .ok (Reader.signed 16 v, q2) := by
  show Except.bind ((Reader.u2 : Decoder Nat) code q) (fun x => .ok (Reader.signed 16 x.1, x.2)) = _
  rw [h]
  rfl
def zL0 : List (Nat × Instr) := [(42, (.aload_n 0)), (43, (.aload_n 1)), (44, (.aload_n 2)), (45, (.aload_n 3)), (26, (.iload_n 0)), (27, (.iload_n 1)), (28, (.iload_n 2)), (29, (.iload_n 3)), (2, (.iconst (-1))), (3, (.iconst 0)), (4, (.iconst 1)), (5, (.iconst 2)), (6, (.iconst 3)), (7, (.iconst 4)), (8, (.iconst 5)), (46, .iaload), (172, .ireturn), (96, .iadd), (59, (.istore_n 0)), (60, (.istore_n 1)), (61, (.istore_n 2)), (62, (.istore_n 3)), (100, .isub), (9, (.lconst 0)), (10, (.lconst 1)), (87, .pop), (79, .iastore), (104, .imul), (173, .lreturn), (148, .lcmp), (133, .i2l), (30, (.lload_n 0)), (31, (.lload_n 1)), (32, (.lload_n 2)), (33, (.lload_n 3)), (177, .return_), (89, .dup), (47, .laload), (50, .aaload), (126, .iand), (97, .ladd), (108, .idiv), (112, .irem), (51, .baload), (120, .ishl), (80, .lastore), (105, .lmul), (122, .ishr), (75, (.astore_n 0)), (76, (.astore_n 1)), (77, (.astore_n 2)), (78, (.astore_n 3)), (121, .lshl), (127, .land), (129, .lor), (101, .lsub), (92, .dup2), (191, .athrow), (124, .iushr), (109, .ldiv), (128, .ior), (130, .ixor), (190, .arraylength), (88, .pop2), (84, .bastore), (113, .lrem), (63, (.lstore_n 0)), (64, (.lstore_n 1)), (65, (.lstore_n 2)), (66, (.lstore_n 3)), (83, .aastore)]
def zL1 : List (Nat × (Nat → Instr)) := [(21, .iload), (54, .istore), (22, .lload), (55, .lstore), (25, .aload), (58, .astore), (18, .ldc)]
def zLS1 : List (Nat × (Int → Instr)) := [(16, .bipush)]
def zL2 : List (Nat × (Nat → Instr)) := [(180, .getfield), (182, .invokevirtual), (181, .putfield), (184, .invokestatic), (183, .invokespecial), (20, .ldc2_w), (187, .new), (19, .ldc_w), (189, .anewarray)]
def zLS2 : List (Nat × (Int → Instr)) := [(153, (.ifCond .eq)), (154, (.ifCond .ne)), (155, (.ifCond .lt)), (156, (.ifCond .ge)), (157, (.ifCond .gt)), (158, (.ifCond .le)), (159, (.if_icmp .eq)), (160, (.if_icmp .ne)), (161, (.if_icmp .lt)), (162, (.if_icmp .ge)), (163, (.if_icmp .gt)), (164, (.if_icmp .le)), (167, .goto), (17, .sipush)]
theorem zL0k : ∀ x ∈ zL0, ∀ p, zgo2.1 p x.1 = (pure x.2 : Decoder Instr) := (zcons (fun _ => rfl) (zcons (fun _ => rfl) (zcons (fun _ => rfl) (zcons (fun _ => rfl) (zcons (fun _ => rfl) (zcons (fun _ => rfl) (zcons (fun _ => rfl) (zcons (fun _ => rfl) (zcons (fun _ => rfl) (zcons (fun _ => rfl) (zcons (fun _ => rfl) (zcons (fun _ => rfl) (zcons (fun _ => rfl) (zcons (fun _ => rfl) (zcons (fun _ => rfl) (zcons (fun _ => rfl) (zcons (fun _ => rfl) (zcons (fun _ => rfl) (zcons (fun _ => rfl) (zcons (fun _ => rfl) (zcons (fun _ => rfl) (zcons (fun _ => rfl) (zcons (fun _ => rfl) (zcons (fun _ => rfl) (zcons (fun _ => rfl) (zcons (fun _ => rfl) (zcons (fun _ => rfl) (zcons (fun _ => rfl) (zcons (fun _ => rfl) (zcons (fun _ => rfl) (zcons (fun _ => rfl) (zcons (fun _ => rfl) (zcons (fun _ => rfl) (zcons (fun _ => rfl) (zcons (fun _ => rfl) (zcons (fun _ => rfl) (zcons (fun _ => rfl) (zcons (fun _ => rfl) (zcons (fun _ => rfl) (zcons (fun _ => rfl) (zcons (fun _ => rfl) (zcons (fun _ => rfl) (zcons (fun _ => rfl) (zcons (fun _ => rfl) (zcons (fun _ => rfl) (zcons (fun _ => rfl) (zcons (fun _ => rfl) (zcons (fun _ => rfl) (zcons (fun _ => rfl) (zcons (fun _ => rfl) (zcons (fun _ => rfl) (zcons (fun _ => rfl) (zcons (fun _ => rfl) (zcons (fun _ => rfl) (zcons (fun _ => rfl) (zcons (fun _ => rfl) (zcons (fun _ => rfl) (zcons (fun _ => rfl) (zcons (fun _ => rfl) (zcons (fun _ => rfl) (zcons (fun _ => rfl) (zcons (fun _ => rfl) (zcons (fun _ => rfl) (zcons (fun _ => rfl) (zcons (fun _ => rfl) (zcons (fun _ => rfl) (zcons (fun _ => rfl) (zcons (fun _ => rfl) (zcons (fun _ => rfl) (zcons (fun _ => rfl) (zcons (fun _ => rfl) znil)))))))))))))))))))))))))))))))))))))))))))))))))))))))))))))))))))))))
theorem zL1k : ∀ x ∈ zL1, ∀ p, zgo2.1 p x.1 = (Reader.u1 >>= fun a => (pure (x.2 a) : Decoder Instr)) := (zcons (fun _ => rfl) (zcons (fun _ => rfl) (zcons (fun _ => rfl) (zcons (fun _ => rfl) (zcons (fun _ => rfl) (zcons (fun _ => rfl) (zcons (fun _ => rfl) znil)))))))
theorem zLS1k : ∀ x ∈ zLS1, ∀ p, zgo2.1 p x.1 = (Reader.s1 >>= fun a => (pure (x.2 a) : Decoder Instr)) := (zcons (fun _ => rfl) znil)
theorem zL2k : ∀ x ∈ zL2, ∀ p, zgo2.1 p x.1 = (Reader.u2 >>= fun a => (pure (x.2 a) : Decoder Instr)) := (zcons (fun _ => rfl) (zcons (fun _ => rfl) (zcons (fun _ => rfl) (zcons (fun _ => rfl) (zcons (fun _ => rfl) (zcons (fun _ => rfl) (zcons (fun _ => rfl) (zcons (fun _ => rfl) (zcons (fun _ => rfl) znil)))))))))
theorem zLS2k : ∀ x ∈ zLS2, ∀ p, zgo2.1 p x.1 = (Reader.s2 >>= fun a => (pure (x.2 a) : Decoder Instr)) := (zcons (fun _ => rfl) (zcons (fun _ => rfl) (zcons (fun _ => rfl) (zcons (fun _ => rfl) (zcons (fun _ => rfl) (zcons (fun _ => rfl) (zcons (fun _ => rfl) (zcons (fun _ => rfl) (zcons (fun _ => rfl) (zcons (fun _ => rfl) (zcons (fun _ => rfl) (zcons (fun _ => rfl) (zcons (fun _ => rfl) (zcons (fun _ => rfl) znil))))))))))))))
theorem zKinc {code : ByteArray} {p q v w : Nat} (h : (Reader.u1 : Decoder Nat) code q = .ok (v, q + 1)) (k : (Reader.u1 : Decoder Nat) code (q + 1) = .ok (w, q + 2)) : zgo2.1 p 132 code q = .ok (.iinc v (Reader.signed 8 w), q + 2) := by
  show Except.bind ((Reader.u1 : Decoder Nat) code q) (fun x => Except.bind ((Reader.s1 : Decoder Int) code x.2) (fun y => .ok (Instr.iinc x.1 y.1, y.2))) = _
  rw [h]
  show Except.bind ((Reader.s1 : Decoder Int) code (q + 1)) (fun y => .ok (Instr.iinc v y.1, y.2)) = _
  rw [zs1 k]
  rfl
def zd0 (b : Nat) : Option (Instr × Nat) := match zlk zL0 b with
  | some i => some (i, 1)
  | none => none
def zd1 (b c : Nat) : Option (Instr × Nat) := match zlk zL1 b with
  | some f => some (f c, 2)
  | none => match zlk zLS1 b with
    | some f => some (f (Reader.signed 8 c), 2)
    | none => none
def zd2 (b c d : Nat) : Option (Instr × Nat) := match zlk zL2 b with
  | some f => some (f (c * 256 + d), 3)
  | none => match zlk zLS2 b with
    | some f => some (f (Reader.signed 16 (c * 256 + d)), 3)
    | none => bif Nat.beq b 132 then some (.iinc c (Reader.signed 8 d), 3) else none
def zdT (b : Nat) : List UInt8 → Option (Instr × Nat)
  | [] => none
  | c :: t => match zd1 b c.toNat with
    | some r => some r
    | none => match t with
      | [] => none
      | d :: _ => zd2 b c.toNat d.toNat
def zdec1 : List UInt8 → Option (Instr × Nat)
  | [] => none
  | b :: t => match zd0 b.toNat with
    | some r => some r
    | none => zdT b.toNat t
theorem zdrop1 {l t : List UInt8} {p : Nat} {b : UInt8} (h : l.drop p = b :: t) : l.drop (p + 1) = t := by
  rw [← List.drop_drop, h]
  rfl
theorem zok0 {code : ByteArray} {p v : Nat} (h : (Reader.u1 : Decoder Nat) code p = .ok (v, p + 1)) {i : Instr} {n : Nat} (e : zd0 v = some (i, n)) : decode code p = .ok (i, n) := by
  unfold zd0 at e
  cases hk : zlk zL0 v with
  | none => rw [hk] at e; cases e
  | some j =>
    rw [hk] at e
    cases e
    have q := zdu1 h (i := i) (q := p + 1) (by rw [zL0k _ (zlkm hk) p]; rfl)
    rwa [Nat.add_sub_cancel_left] at q
theorem zok1 {code : ByteArray} {p v c : Nat} (h : (Reader.u1 : Decoder Nat) code p = .ok (v, p + 1)) (h1 : (Reader.u1 : Decoder Nat) code (p + 1) = .ok (c, p + 1 + 1)) {i : Instr} {n : Nat} (e : zd1 v c = some (i, n)) : decode code p = .ok (i, n) := by
  unfold zd1 at e
  cases hk : zlk zL1 v with
  | some f =>
    rw [hk] at e
    cases e
    have q := zdu1 h (i := f c) (q := p + 1 + 1) (by rw [zL1k _ (zlkm hk) p]; exact zrunX h1 f)
    rwa [show p + 1 + 1 - p = 2 by omega] at q
  | none =>
    rw [hk] at e
    cases hk2 : zlk zLS1 v with
    | none => rw [hk2] at e; cases e
    | some f =>
      rw [hk2] at e
      cases e
      have q := zdu1 h (i := f (Reader.signed 8 c)) (q := p + 1 + 1) (by rw [zLS1k _ (zlkm hk2) p]; exact zrunX (zs1 h1) f)
      rwa [show p + 1 + 1 - p = 2 by omega] at q
theorem zok2 {code : ByteArray} {p v c d : Nat} (h : (Reader.u1 : Decoder Nat) code p = .ok (v, p + 1)) (h1 : (Reader.u1 : Decoder Nat) code (p + 1) = .ok (c, p + 1 + 1)) (h2 : (Reader.u1 : Decoder Nat) code (p + 1 + 1) = .ok (d, p + 1 + 2)) {i : Instr} {n : Nat} (e : zd2 v c d = some (i, n)) : decode code p = .ok (i, n) := by
  unfold zd2 at e
  cases hk : zlk zL2 v with
  | some f =>
    rw [hk] at e
    cases e
    have q := zdu1 h (i := f (c * 256 + d)) (q := p + 1 + 2) (by rw [zL2k _ (zlkm hk) p]; exact zrunX (zu2 h1 h2) f)
    rwa [show p + 1 + 2 - p = 3 by omega] at q
  | none =>
    rw [hk] at e
    cases hk2 : zlk zLS2 v with
    | some f =>
      rw [hk2] at e
      cases e
      have q := zdu1 h (i := f (Reader.signed 16 (c * 256 + d))) (q := p + 1 + 2) (by rw [zLS2k _ (zlkm hk2) p]; exact zrunX (zs2 (zu2 h1 h2)) f)
      rwa [show p + 1 + 2 - p = 3 by omega] at q
    | none =>
      rw [hk2] at e
      cases hb : Nat.beq v 132 with
      | false => rw [hb] at e; cases e
      | true =>
        rw [hb] at e
        cases e
        have ev := Nat.eq_of_beq_eq_true hb
        subst ev
        have q := zdu1 h (i := .iinc c (Reader.signed 8 d)) (q := p + 1 + 2) (zKinc h1 h2)
        rwa [show p + 1 + 2 - p = 3 by omega] at q
theorem zdec1k {code : ByteArray} {p : Nat} {bs : List UInt8} (h : code.data.toList.drop p = bs) {i : Instr} {n : Nat} (e : zdec1 bs = some (i, n)) : decode code p = .ok (i, n) := by
  match bs, h, e with
  | b :: t, h, e =>
    have u := zu1 h
    have e : (match zd0 b.toNat with
      | some r => some r
      | none => zdT b.toNat t) = some (i, n) := e
    cases h0 : zd0 b.toNat with
    | some r =>
      rw [h0] at e
      cases e
      exact zok0 u h0
    | none =>
      rw [h0] at e
      match t, h, e with
      | c :: t2, h, e =>
        have hd := zdrop1 h
        have u1 := zu1 hd
        simp only [zdT] at e
        cases h1 : zd1 b.toNat c.toNat with
        | some r =>
          rw [h1] at e
          cases e
          exact zok1 u u1 h1
        | none =>
          rw [h1] at e
          match t2, hd, e with
          | d :: t3, hd, e =>
            exact zok2 u u1 (zu1 (zdrop1 hd)) e
/-- k bytes further, then c -/
noncomputable def zskip (c : List UInt8 → Bool) (k : Nat) : List UInt8 → Bool := Nat.rec (motive := fun _ => List UInt8 → Bool) c (fun _ ih bs => List.casesOn (motive := fun _ => Bool) bs false (fun _ t => ih t)) k
theorem zskipk {c : List UInt8 → Bool} : ∀ (k : Nat) (bs : List UInt8), zskip c k bs = true → c (bs.drop k) = true
  | 0, bs, h => h
  | k + 1, [], h => by cases h
  | k + 1, b :: bs, h => zskipk k bs h
def zone (code : ByteArray) (e : zE) (bs : List UInt8) : Bool := match zdec1 bs with
  | some r => decide (r = (e.2.1, e.2.2.1 - e.1))
  | none => decide (decode code e.1 = .ok (e.2.1, e.2.2.1 - e.1))
theorem zonek {code : ByteArray} {e : zE} {bs : List UInt8} (hd : code.data.toList.drop e.1 = bs) (h : zone code e bs = true) : decode code e.1 = .ok (e.2.1, e.2.2.1 - e.1) := by
  unfold zone at h
  cases hz : zdec1 bs with
  | some r =>
    rw [hz] at h
    have er := of_decide_eq_true h
    rw [er] at hz
    exact zdec1k hd hz
  | none =>
    rw [hz] at h
    exact of_decide_eq_true h
noncomputable def zfast (code : ByteArray) (t : List zE) : Nat → List UInt8 → Bool := List.rec (motive := fun _ => Nat → List UInt8 → Bool) (fun _ _ => true) (fun e _ ih p bs => Nat.ble p e.1 && zskip (fun bs => zone code e bs && ih e.1 bs) (e.1 - p) bs) t
theorem zfastk {code : ByteArray} : ∀ (t : List zE) (p : Nat) (bs : List UInt8), code.data.toList.drop p = bs → zfast code t p bs = true → ∀ e ∈ t, decode code e.1 = .ok (e.2.1, e.2.2.1 - e.1)
  | [], _, _, _, _ => znil
  | e :: t, p, bs, hd, h => by
    have h' : (Nat.ble p e.1 && zskip (fun bs => zone code e bs && zfast code t e.1 bs) (e.1 - p) bs) = true := h
    rw [Bool.and_eq_true] at h'
    have hl := Nat.le_of_ble_eq_true h'.1
    have h2 := zskipk _ _ h'.2
    rw [Bool.and_eq_true] at h2
    have hd2 : code.data.toList.drop e.1 = bs.drop (e.1 - p) := by
      rw [← hd, List.drop_drop]
      congr 1
      omega
    exact zcons (zonek hd2 h2.1) (zfastk t e.1 _ hd2 h2.2)
noncomputable def zchk (F : zFT) (cc : ByteArray) (nL : Nat) (ini : Bool) (t : List zE) : Bool := zfast cc t 0 cc.data.toList && t.all (fun e => zlenok e.2.1 e.1 e.2.2.1 && zgd F nL ini e.1 e.2.1 e.2.2.2.1 e.2.2.2.2.1 e.2.2.2.2.2)
theorem zchkk {F : zFT} {cc : ByteArray} {nL : Nat} {ini : Bool} {t : List zE} (h : zchk F cc nL ini t = true) : ∀ e ∈ t, zgood F cc nL ini e = true := by
  unfold zchk at h
  rw [Bool.and_eq_true] at h
  intro x hx
  have a := zfastk t 0 _ rfl h.1 x hx
  have b := List.all_eq_true.mp h.2 x hx
  rw [Bool.and_eq_true] at b
  unfold zgood
  rw [Bool.and_eq_true, Bool.and_eq_true]
  exact ⟨⟨decide_eq_true a, b.1⟩, b.2⟩
