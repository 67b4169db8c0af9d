/-! a method's bytes told by rows, so that its table is checked in one pass. Own work (wip/pm/gen79.py). -/
def gB (b : ByteArray) (p : Nat) : Option Nat := b.data.toList[p]?.map UInt8.toNat
abbrev RdN := Reader DecodeError Nat
abbrev RdI := Reader DecodeError Int
abbrev RdJ := Reader DecodeError Instr
theorem u1_e {b : ByteArray} {p c : Nat} (h : gB b p = some c) : (Reader.u1 : RdN) b p = .ok (c, p + 1) := by
  unfold gB at h
  obtain ⟨x, h1, h2⟩ := Option.map_eq_some_iff.mp h
  obtain ⟨hp, h3⟩ := List.getElem?_eq_some_iff.mp h1
  have hs : p < b.size := by
    show p < b.data.size
    rw [← Array.length_toList]; exact hp
  have e : (Reader.u1 : RdN) b p = (dite (p < b.size) (fun h => (do set (p + 1); pure (b[p]'h).toNat : RdN)) (fun _ => (throw (HasTruncated.truncated p) : RdN))) b p := rfl
  rw [e, dif_pos hs]
  have g : (b[p]'hs) = x := by
    rw [← h3]
    show b.data[p] = b.data.toList[p]
    rw [Array.getElem_toList]
  show Except.ok ((b[p]'hs).toNat, p + 1) = _
  rw [g, h2]
theorem bd_e {α β : Type} {r : Reader DecodeError α} {f : α → Reader DecodeError β} {b : ByteArray} {p q : Nat} {a : α} (h : r b p = .ok (a, q)) : (r >>= f) b p = f a b q := by
  show Except.bind (r b p) (fun x => f x.1 b x.2) = _
  rw [h]
  rfl
theorem mp_e {α β : Type} {r : Reader DecodeError α} {f : α → β} {b : ByteArray} {p q : Nat} {a : α} (h : r b p = .ok (a, q)) : (f <$> r) b p = .ok (f a, q) := by
  show Except.bind (r b p) (fun x => .ok (f x.1, x.2)) = _
  rw [h]
  rfl
theorem u2_e {b : ByteArray} {p c d : Nat} (h : gB b p = some c) (g : gB b (p + 1) = some d) : (Reader.u2 : RdN) b p = .ok (c * 256 + d, p + 2) := by
  unfold Reader.u2
  rw [bd_e (u1_e h), bd_e (u1_e g)]
  rfl
theorem dc_e {b : ByteArray} {p n : Nat} {i : Instr} (h : Decoder.instr p b p = .ok (i, p + n)) : decode b p = .ok (i, n) := by
  unfold decode
  show Except.bind (Decoder.instr p b p) _ = _
  rw [h]
  show Except.ok (i, p + n - p) = _
  rw [Nat.add_sub_cancel_left]
theorem D0 {f : Nat → RdJ} {c : Nat} {i : Instr} {b : ByteArray} {p : Nat} (hi : Decoder.instr p = (Reader.u1 >>= f)) (hf : f c = (Pure.pure i : RdJ)) (h : gB b p = some c) : decode b p = .ok (i, 1) :=
  dc_e (by rw [hi, bd_e (u1_e h), hf]; rfl)
theorem D1 {f : Nat → RdJ} {c x : Nat} {g : Nat → Instr} {b : ByteArray} {p : Nat} (hi : Decoder.instr p = (Reader.u1 >>= f)) (hf : f c = (Reader.u1 >>= fun x => (Pure.pure (g x) : RdJ))) (h : gB b p = some c) (h1 : gB b (p + 1) = some x) : decode b p = .ok (g x, 2) :=
  dc_e (by rw [hi, bd_e (u1_e h), hf, bd_e (u1_e h1)]; rfl)
theorem D2 {f : Nat → RdJ} {c x : Nat} {g : Int → Instr} {b : ByteArray} {p : Nat} (hi : Decoder.instr p = (Reader.u1 >>= f)) (hf : f c = (Reader.s1 >>= fun x => (Pure.pure (g x) : RdJ))) (h : gB b p = some c) (h1 : gB b (p + 1) = some x) : decode b p = .ok (g (Reader.signed 8 x), 2) :=
  dc_e (by rw [hi, bd_e (u1_e h), hf, bd_e (r := Reader.s1) (mp_e (u1_e h1))]; rfl)
theorem D3 {f : Nat → RdJ} {c x y : Nat} {g : Nat → Instr} {b : ByteArray} {p : Nat} (hi : Decoder.instr p = (Reader.u1 >>= f)) (hf : f c = (Reader.u2 >>= fun x => (Pure.pure (g x) : RdJ))) (h : gB b p = some c) (h1 : gB b (p + 1) = some x) (h2 : gB b (p + 2) = some y) : decode b p = .ok (g (x * 256 + y), 3) :=
  dc_e (by rw [hi, bd_e (u1_e h), hf, bd_e (u2_e h1 h2)]; rfl)
theorem D4 {f : Nat → RdJ} {c x y : Nat} {g : Int → Instr} {b : ByteArray} {p : Nat} (hi : Decoder.instr p = (Reader.u1 >>= f)) (hf : f c = (Reader.s2 >>= fun x => (Pure.pure (g x) : RdJ))) (h : gB b p = some c) (h1 : gB b (p + 1) = some x) (h2 : gB b (p + 2) = some y) : decode b p = .ok (g (Reader.signed 16 (x * 256 + y)), 3) :=
  dc_e (by rw [hi, bd_e (u1_e h), hf, bd_e (r := Reader.s2) (mp_e (u2_e h1 h2))]; rfl)
theorem D5 {f : Nat → RdJ} {c x y : Nat} {g : Nat → Int → Instr} {b : ByteArray} {p : Nat} (hi : Decoder.instr p = (Reader.u1 >>= f)) (hf : f c = (Reader.u1 >>= fun x => Reader.s1 >>= fun y => (Pure.pure (g x y) : RdJ))) (h : gB b p = some c) (h1 : gB b (p + 1) = some x) (h2 : gB b (p + 2) = some y) : decode b p = .ok (g x (Reader.signed 8 y), 3) :=
  dc_e (by rw [hi, bd_e (u1_e h), hf, bd_e (u1_e h1), bd_e (r := Reader.s1) (mp_e (u1_e h2))]; rfl)
theorem D6 {f h' : Nat → RdJ} {c x : Nat} {i : Instr} {b : ByteArray} {p : Nat} (hi : Decoder.instr p = (Reader.u1 >>= f)) (hf : f c = (Reader.u1 >>= h')) (hh : h' x = (Pure.pure i : RdJ)) (h : gB b p = some c) (h1 : gB b (p + 1) = some x) : decode b p = .ok (i, 2) :=
  dc_e (by rw [hi, bd_e (u1_e h), hf, bd_e (u1_e h1), hh]; rfl)
theorem fnil {α : Type} {P : α → Prop} : ∀ x, x ∈ ([] : List α) → P x := fun x h => absurd h List.not_mem_nil
theorem fc {α : Type} {P : α → Prop} {a : α} {l : List α} (h : P a) (t : ∀ x, x ∈ l → P x) : ∀ x, x ∈ a :: l → P x := fun x hx => by
  rcases List.mem_cons.mp hx with e | e
  · rw [e]; exact h
  · exact t x e
def lkA {α : Type} : List (Nat × α) → Nat → Option α
  | [], _ => none
  | (k, a) :: t, c => match Nat.beq k c with
    | true => some a
    | false => lkA t c
theorem lkA_m {α : Type} : ∀ {t : List (Nat × α)} {c : Nat} {a : α}, lkA t c = some a → (c, a) ∈ t
  | [], c, a, h => by simp [lkA] at h
  | (k, x) :: t, c, a, h => by
    unfold lkA at h
    cases e : Nat.beq k c with
    | true =>
      rw [e] at h
      have h2 : some x = some a := h
      cases h2
      have := Nat.eq_of_beq_eq_true e
      subst this
      exact List.mem_cons_self
    | false =>
      rw [e] at h
      exact List.mem_cons_of_mem _ (lkA_m h)
def oT0 : List (Nat × Instr) := [(42, .aload_n 0), (43, .aload_n 1), (44, .aload_n 2), (45, .aload_n 3), (26, .iload_n 0), (27, .iload_n 1), (28, .iload_n 2), (29, .iload_n 3), (3, .iconst 0), (4, .iconst 1), (5, .iconst 2), (6, .iconst 3), (7, .iconst 4), (8, .iconst 5), (2, .iconst (-1)), (172, .ireturn), (96, .iadd), (46, .iaload), (59, .istore_n 0), (60, .istore_n 1), (61, .istore_n 2), (62, .istore_n 3), (79, .iastore), (100, .isub), (87, .pop), (89, .dup), (133, .i2l), (104, .imul), (177, .return_), (105, .lmul), (108, .idiv), (30, .lload_n 0), (31, .lload_n 1), (32, .lload_n 2), (33, .lload_n 3), (63, .lstore_n 0), (64, .lstore_n 1), (65, .lstore_n 2), (66, .lstore_n 3), (75, .astore_n 0), (76, .astore_n 1), (77, .astore_n 2), (78, .astore_n 3), (9, .lconst 0), (10, .lconst 1), (148, .lcmp), (112, .irem), (120, .ishl), (126, .iand), (173, .lreturn), (176, .areturn), (50, .aaload), (136, .l2i), (190, .arraylength), (97, .ladd), (83, .aastore), (109, .ldiv), (92, .dup2), (101, .lsub), (130, .ixor), (124, .iushr), (122, .ishr), (128, .ior), (116, .ineg), (1, .aconst_null), (127, .land), (145, .i2b), (88, .pop2), (123, .lshr), (121, .lshl), (129, .lor), (147, .i2s), (51, .baload), (117, .lneg), (146, .i2c), (84, .bastore)]
def oT1 : List (Nat × (Nat → Instr)) := [(21, .iload), (54, .istore), (25, .aload), (18, .ldc), (22, .lload), (55, .lstore), (58, .astore)]
def oT2 : List (Nat × (Int → Instr)) := [(16, .bipush)]
def oT3 : List (Nat × (Nat → Instr)) := [(180, .getfield), (182, .invokevirtual), (181, .putfield), (184, .invokestatic), (183, .invokespecial), (187, .new), (20, .ldc2_w), (19, .ldc_w), (178, .getstatic), (189, .anewarray)]
def oT4 : List (Nat × (Int → Instr)) := [(153, .ifCond .eq), (154, .ifCond .ne), (155, .ifCond .lt), (156, .ifCond .ge), (157, .ifCond .gt), (158, .ifCond .le), (167, .goto), (159, .if_icmp .eq), (160, .if_icmp .ne), (161, .if_icmp .lt), (162, .if_icmp .ge), (163, .if_icmp .gt), (164, .if_icmp .le), (17, .sipush), (198, .ifnull), (199, .ifnonnull)]
set_option maxRecDepth 100000 in
theorem oK0 : ∀ r, r ∈ oT0 → ∀ (b : ByteArray) (p : Nat), gB b p = some r.1 → decode b p = .ok (r.2, 1) :=
  fc (fun b p h => D0 rfl rfl h) (fc (fun b p h => D0 rfl rfl h) (fc (fun b p h => D0 rfl rfl h) (fc (fun b p h => D0 rfl rfl h) (fc (fun b p h => D0 rfl rfl h) (fc (fun b p h => D0 rfl rfl h) (fc (fun b p h => D0 rfl rfl h) (fc (fun b p h => D0 rfl rfl h) (fc (fun b p h => D0 rfl rfl h) (fc (fun b p h => D0 rfl rfl h) (fc (fun b p h => D0 rfl rfl h) (fc (fun b p h => D0 rfl rfl h) (fc (fun b p h => D0 rfl rfl h) (fc (fun b p h => D0 rfl rfl h) (fc (fun b p h => D0 rfl rfl h) (fc (fun b p h => D0 rfl rfl h) (fc (fun b p h => D0 rfl rfl h) (fc (fun b p h => D0 rfl rfl h) (fc (fun b p h => D0 rfl rfl h) (fc (fun b p h => D0 rfl rfl h) (fc (fun b p h => D0 rfl rfl h) (fc (fun b p h => D0 rfl rfl h) (fc (fun b p h => D0 rfl rfl h) (fc (fun b p h => D0 rfl rfl h) (fc (fun b p h => D0 rfl rfl h) (fc (fun b p h => D0 rfl rfl h) (fc (fun b p h => D0 rfl rfl h) (fc (fun b p h => D0 rfl rfl h) (fc (fun b p h => D0 rfl rfl h) (fc (fun b p h => D0 rfl rfl h) (fc (fun b p h => D0 rfl rfl h) (fc (fun b p h => D0 rfl rfl h) (fc (fun b p h => D0 rfl rfl h) (fc (fun b p h => D0 rfl rfl h) (fc (fun b p h => D0 rfl rfl h) (fc (fun b p h => D0 rfl rfl h) (fc (fun b p h => D0 rfl rfl h) (fc (fun b p h => D0 rfl rfl h) (fc (fun b p h => D0 rfl rfl h) (fc (fun b p h => D0 rfl rfl h) (fc (fun b p h => D0 rfl rfl h) (fc (fun b p h => D0 rfl rfl h) (fc (fun b p h => D0 rfl rfl h) (fc (fun b p h => D0 rfl rfl h) (fc (fun b p h => D0 rfl rfl h) (fc (fun b p h => D0 rfl rfl h) (fc (fun b p h => D0 rfl rfl h) (fc (fun b p h => D0 rfl rfl h) (fc (fun b p h => D0 rfl rfl h) (fc (fun b p h => D0 rfl rfl h) (fc (fun b p h => D0 rfl rfl h) (fc (fun b p h => D0 rfl rfl h) (fc (fun b p h => D0 rfl rfl h) (fc (fun b p h => D0 rfl rfl h) (fc (fun b p h => D0 rfl rfl h) (fc (fun b p h => D0 rfl rfl h) (fc (fun b p h => D0 rfl rfl h) (fc (fun b p h => D0 rfl rfl h) (fc (fun b p h => D0 rfl rfl h) (fc (fun b p h => D0 rfl rfl h) (fc (fun b p h => D0 rfl rfl h) (fc (fun b p h => D0 rfl rfl h) (fc (fun b p h => D0 rfl rfl h) (fc (fun b p h => D0 rfl rfl h) (fc (fun b p h => D0 rfl rfl h) (fc (fun b p h => D0 rfl rfl h) (fc (fun b p h => D0 rfl rfl h) (fc (fun b p h => D0 rfl rfl h) (fc (fun b p h => D0 rfl rfl h) (fc (fun b p h => D0 rfl rfl h) (fc (fun b p h => D0 rfl rfl h) (fc (fun b p h => D0 rfl rfl h) (fc (fun b p h => D0 rfl rfl h) (fc (fun b p h => D0 rfl rfl h) (fc (fun b p h => D0 rfl rfl h) (fc (fun b p h => D0 rfl rfl h) (fnil))))))))))))))))))))))))))))))))))))))))))))))))))))))))))))))))))))))))))))
set_option maxRecDepth 100000 in
theorem oK1 : ∀ r, r ∈ oT1 → ∀ (b : ByteArray) (p x : Nat), gB b p = some r.1 → gB b (p + 1) = some x → decode b p = .ok (r.2 x, 2) :=
  fc (fun b p x h h1 => D1 rfl rfl h h1) (fc (fun b p x h h1 => D1 rfl rfl h h1) (fc (fun b p x h h1 => D1 rfl rfl h h1) (fc (fun b p x h h1 => D1 rfl rfl h h1) (fc (fun b p x h h1 => D1 rfl rfl h h1) (fc (fun b p x h h1 => D1 rfl rfl h h1) (fc (fun b p x h h1 => D1 rfl rfl h h1) (fnil)))))))
set_option maxRecDepth 100000 in
theorem oK2 : ∀ r, r ∈ oT2 → ∀ (b : ByteArray) (p x : Nat), gB b p = some r.1 → gB b (p + 1) = some x → decode b p = .ok (r.2 (Reader.signed 8 x), 2) :=
  fc (fun b p x h h1 => D2 rfl rfl h h1) (fnil)
set_option maxRecDepth 100000 in
theorem oK3 : ∀ r, r ∈ oT3 → ∀ (b : ByteArray) (p x y : Nat), gB b p = some r.1 → gB b (p + 1) = some x → gB b (p + 2) = some y → decode b p = .ok (r.2 (x * 256 + y), 3) :=
  fc (fun b p x y h h1 h2 => D3 rfl rfl h h1 h2) (fc (fun b p x y h h1 h2 => D3 rfl rfl h h1 h2) (fc (fun b p x y h h1 h2 => D3 rfl rfl h h1 h2) (fc (fun b p x y h h1 h2 => D3 rfl rfl h h1 h2) (fc (fun b p x y h h1 h2 => D3 rfl rfl h h1 h2) (fc (fun b p x y h h1 h2 => D3 rfl rfl h h1 h2) (fc (fun b p x y h h1 h2 => D3 rfl rfl h h1 h2) (fc (fun b p x y h h1 h2 => D3 rfl rfl h h1 h2) (fc (fun b p x y h h1 h2 => D3 rfl rfl h h1 h2) (fc (fun b p x y h h1 h2 => D3 rfl rfl h h1 h2) (fnil))))))))))
set_option maxRecDepth 100000 in
theorem oK4 : ∀ r, r ∈ oT4 → ∀ (b : ByteArray) (p x y : Nat), gB b p = some r.1 → gB b (p + 1) = some x → gB b (p + 2) = some y → decode b p = .ok (r.2 (Reader.signed 16 (x * 256 + y)), 3) :=
  fc (fun b p x y h h1 h2 => D4 rfl rfl h h1 h2) (fc (fun b p x y h h1 h2 => D4 rfl rfl h h1 h2) (fc (fun b p x y h h1 h2 => D4 rfl rfl h h1 h2) (fc (fun b p x y h h1 h2 => D4 rfl rfl h h1 h2) (fc (fun b p x y h h1 h2 => D4 rfl rfl h h1 h2) (fc (fun b p x y h h1 h2 => D4 rfl rfl h h1 h2) (fc (fun b p x y h h1 h2 => D4 rfl rfl h h1 h2) (fc (fun b p x y h h1 h2 => D4 rfl rfl h h1 h2) (fc (fun b p x y h h1 h2 => D4 rfl rfl h h1 h2) (fc (fun b p x y h h1 h2 => D4 rfl rfl h h1 h2) (fc (fun b p x y h h1 h2 => D4 rfl rfl h h1 h2) (fc (fun b p x y h h1 h2 => D4 rfl rfl h h1 h2) (fc (fun b p x y h h1 h2 => D4 rfl rfl h h1 h2) (fc (fun b p x y h h1 h2 => D4 rfl rfl h h1 h2) (fc (fun b p x y h h1 h2 => D4 rfl rfl h h1 h2) (fc (fun b p x y h h1 h2 => D4 rfl rfl h h1 h2) (fnil))))))))))))))))
set_option maxRecDepth 100000 in
theorem oK5 (b : ByteArray) (p x y : Nat) (h : gB b p = some 132) (h1 : gB b (p + 1) = some x) (h2 : gB b (p + 2) = some y) : decode b p = .ok (.iinc x (Reader.signed 8 y), 3) := D5 rfl rfl h h1 h2
set_option maxRecDepth 100000 in
theorem oK6 (b : ByteArray) (p : Nat) (h : gB b p = some 188) (h1 : gB b (p + 1) = some 10) : decode b p = .ok (.newarray .int, 2) := D6 rfl rfl rfl h h1
set_option maxRecDepth 100000 in
theorem oK7 (b : ByteArray) (p : Nat) (h : gB b p = some 188) (h1 : gB b (p + 1) = some 8) : decode b p = .ok (.newarray .byte, 2) := D6 rfl rfl rfl h h1
/-- the instruction of length n with which these bytes begin -/
def chD (i : Instr) (n : Nat) : List UInt8 → Bool
  | [] => false
  | b0 :: r => match lkA oT0 b0.toNat with
    | some i0 => decide (i0 = i) && Nat.beq n 1
    | none => match r with
      | [] => false
      | b1 :: r1 => match lkA oT1 b0.toNat with
        | some g => decide (g b1.toNat = i) && Nat.beq n 2
        | none => match lkA oT2 b0.toNat with
          | some g => decide (g (Reader.signed 8 b1.toNat) = i) && Nat.beq n 2
          | none => match r1 with
            | [] => false
            | b2 :: _ => match lkA oT3 b0.toNat with
              | some g => decide (g (b1.toNat * 256 + b2.toNat) = i) && Nat.beq n 3
              | none => match lkA oT4 b0.toNat with
                | some g => decide (g (Reader.signed 16 (b1.toNat * 256 + b2.toNat)) = i) && Nat.beq n 3
                | none => match Nat.beq b0.toNat 132 with
                  | true => decide (.iinc b1.toNat (Reader.signed 8 b2.toNat) = i) && Nat.beq n 3
                  | false => Nat.beq b0.toNat 188 && Nat.beq n 2 && ((Nat.beq b1.toNat 10 && decide (.newarray .int = i)) || (Nat.beq b1.toNat 8 && decide (.newarray .byte = i)))
theorem gB_d {b : ByteArray} {p j : Nat} {x : UInt8} {l r : List UInt8} (h : b.data.toList.drop p = l) (e : l.drop j = x :: r) : gB b (p + j) = some x.toNat := by
  unfold gB
  have g : (b.data.toList.drop (p + j)) = x :: r := by rw [← List.drop_drop, h, e]
  have g2 : b.data.toList[p + j]? = some x := by
    have := List.getElem?_drop (xs := b.data.toList) (i := p + j) (j := 0)
    rw [g] at this
    simpa using this.symm
  rw [g2]
  rfl
theorem an_t {a b : Bool} (h : (a && b) = true) : a = true ∧ b = true := by
  cases a <;> cases b <;> simp_all
theorem chD_ok {b : ByteArray} {p : Nat} {i : Instr} {n : Nat} (h : chD i n (b.data.toList.drop p) = true) : decode b p = .ok (i, n) := by
  cases el : b.data.toList.drop p with
  | nil => rw [el] at h; simp [chD] at h
  | cons b0 r =>
    rw [el] at h
    have g0 : gB b p = some b0.toNat := gB_d (j := 0) el rfl
    cases e0 : lkA oT0 b0.toNat with
    | some i0 =>
      simp only [chD, e0] at h
      obtain ⟨h1, h2⟩ := an_t h
      have h1 := of_decide_eq_true h1
      have h2 := Nat.eq_of_beq_eq_true h2
      subst h1 h2
      exact oK0 _ (lkA_m e0) b p g0
    | none =>
      simp only [chD, e0] at h
      cases r with
      | nil => simp at h
      | cons b1 r1 =>
        have g1 : gB b (p + 1) = some b1.toNat := gB_d (j := 1) el rfl
        cases e1 : lkA oT1 b0.toNat with
        | some g =>
          simp only [e1] at h
          obtain ⟨h1, h2⟩ := an_t h
          have h1 := of_decide_eq_true h1
          have h2 := Nat.eq_of_beq_eq_true h2
          subst h1 h2
          exact oK1 _ (lkA_m e1) b p _ g0 g1
        | none =>
          cases e2 : lkA oT2 b0.toNat with
          | some g =>
            simp only [e1, e2] at h
            obtain ⟨h1, h2⟩ := an_t h
            have h1 := of_decide_eq_true h1
            have h2 := Nat.eq_of_beq_eq_true h2
            subst h1 h2
            exact oK2 _ (lkA_m e2) b p _ g0 g1
          | none =>
            cases r1 with
            | nil => simp [e1, e2] at h
            | cons b2 r2 =>
              have g2 : gB b (p + 2) = some b2.toNat := gB_d (j := 2) el rfl
              cases e3 : lkA oT3 b0.toNat with
              | some g =>
                simp only [e1, e2, e3] at h
                obtain ⟨h1, h2⟩ := an_t h
                have h1 := of_decide_eq_true h1
                have h2 := Nat.eq_of_beq_eq_true h2
                subst h1 h2
                exact oK3 _ (lkA_m e3) b p _ _ g0 g1 g2
              | none =>
                cases e4 : lkA oT4 b0.toNat with
                | some g =>
                  simp only [e1, e2, e3, e4] at h
                  obtain ⟨h1, h2⟩ := an_t h
                  have h1 := of_decide_eq_true h1
                  have h2 := Nat.eq_of_beq_eq_true h2
                  subst h1 h2
                  exact oK4 _ (lkA_m e4) b p _ _ g0 g1 g2
                | none =>
                  cases e5 : Nat.beq b0.toNat 132 with
                  | true =>
                    simp only [e1, e2, e3, e4, e5] at h
                    obtain ⟨h1, h2⟩ := an_t h
                    have h1 := of_decide_eq_true h1
                    have h2 := Nat.eq_of_beq_eq_true h2
                    have h3 := Nat.eq_of_beq_eq_true e5
                    subst h1 h2
                    rw [h3] at g0
                    exact oK5 b p _ _ g0 g1 g2
                  | false =>
                    simp only [e1, e2, e3, e4, e5] at h
                    obtain ⟨h1, h2⟩ := an_t h
                    obtain ⟨h3, h4⟩ := an_t h1
                    have h3 := Nat.eq_of_beq_eq_true h3
                    have h4 := Nat.eq_of_beq_eq_true h4
                    rw [h3] at g0
                    subst h4
                    rcases (Bool.or_eq_true _ _).mp h2 with h5 | h5
                    · obtain ⟨h6, h7⟩ := an_t h5
                      have h6 := Nat.eq_of_beq_eq_true h6
                      have h7 := of_decide_eq_true h7
                      rw [h6] at g1
                      subst h7
                      exact oK6 b p g0 g1
                    · obtain ⟨h6, h7⟩ := an_t h5
                      have h6 := Nat.eq_of_beq_eq_true h6
                      have h7 := of_decide_eq_true h7
                      rw [h6] at g1
                      subst h7
                      exact oK7 b p g0 g1
/-- a table by rows: its chunks begin at s, s + 16 ..; l: the bytes from s on -/
def chkQ (k s : Nat) (l : List UInt8) (q : Nat × pE) : Bool := (Nat.ble s q.1 && chD q.2.1 (q.2.2.1 - q.1) (l.drop (q.1 - s)) && chkI k q.1 q.2) || chkE k q.1 q.2
def chkL (k : Nat) : Nat → List UInt8 → pT → Bool
  | _, _, [] => true
  | s, l, ch :: t => ch.all (chkQ k s l) && chkL k (s + 16) (l.drop 16) t
theorem chkQ_ok {k s : Nat} {q : Nat × pE} (h : chkQ k s ((mB k).data.toList.drop s) q = true) : chkE k q.1 q.2 = true := by
  rcases (Bool.or_eq_true _ _).mp h with h | h
  · obtain ⟨h1, h2⟩ := an_t h
    obtain ⟨h3, h4⟩ := an_t h1
    have h3 := Nat.le_of_ble_eq_true h3
    rw [List.drop_drop, show s + (q.1 - s) = q.1 by omega] at h4
    have d := chD_ok h4
    unfold chkE
    rw [decide_eq_true d, h2]
    rfl
  · exact h
theorem chkL_ok {k : Nat} : ∀ {t : pT} {s : Nat}, chkL k s ((mB k).data.toList.drop s) t = true → chkT k t = true
  | [], s, h => rfl
  | ch :: t, s, h => by
    obtain ⟨h1, h2⟩ := an_t h
    rw [List.drop_drop] at h2
    have g := chkL_ok h2
    unfold chkT at g ⊢
    rw [List.all_cons, g, Bool.and_true]
    exact List.all_eq_true.mpr (fun q hq => chkQ_ok (List.all_eq_true.mp h1 q hq))
theorem chkF {k : Nat} {t : pT} (h : chkL k 0 (mB k).data.toList t = true) : chkT k t = true := chkL_ok (s := 0) h
