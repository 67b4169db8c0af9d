/-! one instruction, many instructions, as propositions. Own work. -/
def stp (G : pG) (d k n0 : Nat) (e : pE) (lv : List (Option pV)) (st : List pV) (n : Nat) (F : pF) (I : pI) (Q : Option pV → pF → pI → Prop) (K : Nat → List (Option pV) → List pV → Nat → pF → pI → Prop) : Prop :=
  match e with
  | (ins, nx, a, b, _, f, z, v, sw) =>
  match ins with
  | .iconst _ => K nx lv (v :: st) n F I
  | .bipush _ => K nx lv (v :: st) n F I
  | .sipush _ => K nx lv (v :: st) n F I
  | .lconst _ => K nx lv (v :: st) n F I
  | .ldc _ => K nx lv (v :: st) n F I
  | .ldc_w _ => K nx lv (v :: st) n F I
  | .ldc2_w _ => K nx lv (v :: st) n F I
  | .aconst_null => K nx lv (.inl none :: st) n F I
  | .iload_n _ => (match lg lv a with | some (.inr (.inl x)) => K nx lv (.inr (.inl x) :: st) n F I | _ => False)
  | .iload _ => (match lg lv a with | some (.inr (.inl x)) => K nx lv (.inr (.inl x) :: st) n F I | _ => False)
  | .lload_n _ => (match lg lv a with | some (.inr (.inr x)) => K nx lv (.inr (.inr x) :: st) n F I | _ => False)
  | .lload _ => (match lg lv a with | some (.inr (.inr x)) => K nx lv (.inr (.inr x) :: st) n F I | _ => False)
  | .aload_n _ => (match lg lv a with | some (.inl x) => K nx lv (.inl x :: st) n F I | _ => False)
  | .aload _ => (match lg lv a with | some (.inl x) => K nx lv (.inl x :: st) n F I | _ => False)
  | .istore_n _ => (match st with | .inr (.inl x) :: r => ls1 lv a (.inr (.inl x)) (fun lv' => K nx lv' r n F I) | _ => False)
  | .istore _ => (match st with | .inr (.inl x) :: r => ls1 lv a (.inr (.inl x)) (fun lv' => K nx lv' r n F I) | _ => False)
  | .astore_n _ => (match st with | .inl x :: r => ls1 lv a (.inl x) (fun lv' => K nx lv' r n F I) | _ => False)
  | .astore _ => (match st with | .inl x :: r => ls1 lv a (.inl x) (fun lv' => K nx lv' r n F I) | _ => False)
  | .lstore_n _ => (match st with | .inr (.inr x) :: r => ls2 lv a (.inr (.inr x)) (fun lv' => K nx lv' r n F I) | _ => False)
  | .lstore _ => (match st with | .inr (.inr x) :: r => ls2 lv a (.inr (.inr x)) (fun lv' => K nx lv' r n F I) | _ => False)
  | .iinc _ _ => (match lg lv a with | some (.inr (.inl x)) => (match v with | .inr (.inl c) => ls1 lv a (.inr (.inl (wr (x + c)))) (fun lv' => K nx lv' st n F I) | _ => False) | _ => False)
  | .iadd => (match st with | .inr (.inl y) :: .inr (.inl x) :: r => K nx lv (.inr (.inl (wr (x + y))) :: r) n F I | _ => False)
  | .isub => (match st with | .inr (.inl y) :: .inr (.inl x) :: r => K nx lv (.inr (.inl (wr (x - y))) :: r) n F I | _ => False)
  | .imul => (match st with | .inr (.inl y) :: .inr (.inl x) :: r => K nx lv (.inr (.inl (wr (x * y))) :: r) n F I | _ => False)
  | .ineg => (match st with | .inr (.inl x) :: r => K nx lv (.inr (.inl (wr (- x))) :: r) n F I | _ => False)
  | .idiv => (match st with | .inr (.inl y) :: .inr (.inl x) :: r => y ≠ 0 ∧ K nx lv (.inr (.inl (wr (x.tdiv y))) :: r) n F I | _ => False)
  | .irem => (match st with | .inr (.inl y) :: .inr (.inl x) :: r => y ≠ 0 ∧ K nx lv (.inr (.inl (x.tmod y)) :: r) n F I | _ => False)
  | .iand => (match st with | .inr (.inl y) :: .inr (.inl x) :: r => K nx lv (.inr (.inl (bI x y)) :: r) n F I | _ => False)
  | .ior => (match st with | .inr (.inl y) :: .inr (.inl x) :: r => K nx lv (.inr (.inl (oI x y)) :: r) n F I | _ => False)
  | .ixor => (match st with | .inr (.inl y) :: .inr (.inl x) :: r => K nx lv (.inr (.inl (xI x y)) :: r) n F I | _ => False)
  | .ishl => (match st with | .inr (.inl y) :: .inr (.inl x) :: r => K nx lv (.inr (.inl (slI x y)) :: r) n F I | _ => False)
  | .ishr => (match st with | .inr (.inl y) :: .inr (.inl x) :: r => K nx lv (.inr (.inl (srI x y)) :: r) n F I | _ => False)
  | .iushr => (match st with | .inr (.inl y) :: .inr (.inl x) :: r => K nx lv (.inr (.inl (suI x y)) :: r) n F I | _ => False)
  | .ladd => (match st with | .inr (.inr y) :: .inr (.inr x) :: r => K nx lv (.inr (.inr (wl (x + y))) :: r) n F I | _ => False)
  | .lsub => (match st with | .inr (.inr y) :: .inr (.inr x) :: r => K nx lv (.inr (.inr (wl (x - y))) :: r) n F I | _ => False)
  | .lmul => (match st with | .inr (.inr y) :: .inr (.inr x) :: r => K nx lv (.inr (.inr (wl (x * y))) :: r) n F I | _ => False)
  | .lneg => (match st with | .inr (.inr x) :: r => K nx lv (.inr (.inr (wl (- x))) :: r) n F I | _ => False)
  | .ldiv => (match st with | .inr (.inr y) :: .inr (.inr x) :: r => y ≠ 0 ∧ K nx lv (.inr (.inr (wl (x.tdiv y))) :: r) n F I | _ => False)
  | .land => (match st with | .inr (.inr y) :: .inr (.inr x) :: r => K nx lv (.inr (.inr (bL x y)) :: r) n F I | _ => False)
  | .lor => (match st with | .inr (.inr y) :: .inr (.inr x) :: r => K nx lv (.inr (.inr (oL x y)) :: r) n F I | _ => False)
  | .lshl => (match st with | .inr (.inl y) :: .inr (.inr x) :: r => K nx lv (.inr (.inr (slL x y)) :: r) n F I | _ => False)
  | .lshr => (match st with | .inr (.inl y) :: .inr (.inr x) :: r => K nx lv (.inr (.inr (srL x y)) :: r) n F I | _ => False)
  | .lcmp => (match st with | .inr (.inr y) :: .inr (.inr x) :: r => K nx lv (.inr (.inl (lcm x y)) :: r) n F I | _ => False)
  | .i2l => (match st with | .inr (.inl x) :: r => K nx lv (.inr (.inr x) :: r) n F I | _ => False)
  | .l2i => (match st with | .inr (.inr x) :: r => K nx lv (.inr (.inl (wr x)) :: r) n F I | _ => False)
  | .i2b => (match st with | .inr (.inl x) :: r => K nx lv (.inr (.inl (wb x)) :: r) n F I | _ => False)
  | .i2s => (match st with | .inr (.inl x) :: r => K nx lv (.inr (.inl (wsh x)) :: r) n F I | _ => False)
  | .i2c => (match st with | .inr (.inl x) :: r => K nx lv (.inr (.inl (x % 65536)) :: r) n F I | _ => False)
  | .dup => (match st with | .inr (.inl x) :: r => K nx lv (.inr (.inl x) :: .inr (.inl x) :: r) n F I | .inl x :: r => K nx lv (.inl x :: .inl x :: r) n F I | _ => False)
  | .dup2 => (match st with | .inr (.inl x) :: .inl y :: r => K nx lv (.inr (.inl x) :: .inl y :: .inr (.inl x) :: .inl y :: r) n F I | _ => False)
  | .pop => (match st with | .inr (.inl _) :: r => K nx lv r n F I | .inl _ :: r => K nx lv r n F I | _ => False)
  | .pop2 => (match st with | .inr (.inr _) :: r => K nx lv r n F I | _ => False)
  | .goto _ => K a lv st n F I
  | .if_icmp c _ => (match st with | .inr (.inl y) :: .inr (.inl x) :: r => br c x y (K a lv r n F I) (K nx lv r n F I) | _ => False)
  | .ifCond c _ => (match st with | .inr (.inl x) :: r => br c x 0 (K a lv r n F I) (K nx lv r n F I) | _ => False)
  | .ifnull _ => (match st with | .inl none :: r => K a lv r n F I | .inl (some _) :: r => K nx lv r n F I | _ => False)
  | .ifnonnull _ => (match st with | .inl none :: r => K nx lv r n F I | .inl (some _) :: r => K a lv r n F I | _ => False)
  | .tableswitch _ _ _ _ => (match st with | .inr (.inl x) :: r => swp x a (fun t => K t lv r n F I) sw | _ => False)
  | .lookupswitch _ _ => (match st with | .inr (.inl x) :: r => swp x a (fun t => K t lv r n F I) sw | _ => False)
  | .getstatic _ => (match a with | 4 => K nx lv (gS G :: st) n F I | _ => K nx lv (v :: st) n F I)
  | .getfield _ => (match st with
    | .inl (some q) :: r => (match f with
      | 6 => ∃ i, i < 18 ∧ q = EXT + 10 + i ∧ K nx lv (.inl (some (q + 30)) :: r) n F I
      | 7 => ∃ i, i < 18 ∧ q = EXT + 10 + i ∧ K nx lv (.inr (.inl 0) :: r) n F I
      | 4 => ∃ m, lay q = (a, m) ∧ q < n ∧ ∀ w, F q b = w → K nx lv (.inl w :: r) n F I
      | 5 => ∃ m, lay q = (a, m) ∧ q < n ∧ ∀ w, F q b = w → K nx lv (.inl w :: r) n F I
      | _ => ∃ m, lay q = (a, m) ∧ q < n ∧ K nx lv (.inr (.inl (I q b)) :: r) n F I)
    | _ => False)
  | .putfield _ => (match st with
    | .inr (.inl x) :: .inl (some q) :: r => (match f with
      | 2 => ∃ m, lay q = (a, m) ∧ q < n ∧ (x = 0 ∨ x = 1) ∧ K nx lv r n F (uI I q b x)
      | 3 => ∃ m, lay q = (a, m) ∧ q < n ∧ (x = 0 ∨ x = 1) ∧ K nx lv r n F (uI I q b x)
      | 0 => ∃ m, lay q = (a, m) ∧ q < n ∧ K nx lv r n F (uI I q b x)
      | 1 => ∃ m, lay q = (a, m) ∧ q < n ∧ K nx lv r n F (uI I q b x)
      | _ => False)
    | .inl w :: .inl (some q) :: r => (match f with
      | 4 => ∃ m, lay q = (a, m) ∧ q < n ∧ K nx lv r n (uF F q b w) I
      | 14 => ∃ m, lay q = (a, m) ∧ q < n ∧ K nx lv r n (uF F q b w) I
      | _ => False)
    | _ => False)
  | .iaload => (match st with
    | .inr (.inl i) :: .inl (some q) :: r => (match f with
      | 0 => ∃ m, lay q = (100, m) ∧ q < n ∧ 0 ≤ i ∧ i < (m : Int) ∧ K nx lv (.inr (.inl (I q i.toNat)) :: r) n F I
      | 1 => q = EXT ∧ 0 ≤ i ∧ i < (gN G : Int) ∧ K nx lv (.inr (.inl (gX G i.toNat).toInt) :: r) n F I
      | _ => (q = EXT + 1 ∧ 0 ≤ i ∧ i < 6 ∧ K nx lv (.inr (.inl (aboveT.getD i.toNat 0)) :: r) n F I) ∨ (q = EXT + 2 ∧ 0 ≤ i ∧ i < 24 ∧ K nx lv (.inr (.inl (bodiesT.getD i.toNat 0)) :: r) n F I))
    | _ => False)
  | .baload => (match st with
    | .inr (.inl i) :: .inl (some q) :: r => (match f with
      | 0 => ∃ m, lay q = (101, m) ∧ q < n ∧ 0 ≤ i ∧ i < (m : Int) ∧ K nx lv (.inr (.inl (I q i.toNat)) :: r) n F I
      | _ => ∃ j, j < 18 ∧ q = EXT + 40 + j ∧ 0 ≤ i ∧ i < (strL.getD j 0 : Int) ∧ K nx lv (.inr (.inl ((strB.getD j []).getD i.toNat 0)) :: r) n F I)
    | _ => False)
  | .aaload => (match st with
    | .inr (.inl i) :: .inl (some q) :: r => ∃ t m, t ∈ [204, 205, 207, 299] ∧ lay q = (t, m) ∧ q < n ∧ 0 ≤ i ∧ i < (m : Int) ∧ ∀ w, F q i.toNat = w → K nx lv (.inl w :: r) n F I
    | _ => False)
  | .iastore => (match st with
    | .inr (.inl x) :: .inr (.inl i) :: .inl (some q) :: r => ∃ m, lay q = (100, m) ∧ q < n ∧ 0 ≤ i ∧ i < (m : Int) ∧ K nx lv r n F (uI I q i.toNat x)
    | _ => False)
  | .bastore => (match st with
    | .inr (.inl x) :: .inr (.inl i) :: .inl (some q) :: r => ∃ m, lay q = (101, m) ∧ q < n ∧ 0 ≤ i ∧ i < (m : Int) ∧ K nx lv r n F (uI I q i.toNat (wb x))
    | _ => False)
  | .aastore => (match st with
    | .inl (some y) :: .inr (.inl i) :: .inl (some q) :: r => ∃ t m, lay q = (t, m) ∧ q < n ∧ 0 ≤ i ∧ i < (m : Int) ∧ ((∃ j, t = 299 ∧ j < 18 ∧ y = EXT + 10 + j) ∨ (∃ c m', t = 200 + c ∧ c ∈ [4, 5, 7] ∧ lay y = (c, m') ∧ y < n)) ∧ K nx lv r n (uF F q i.toNat (some y)) I
    | _ => False)
  | .arraylength => (match st with
    | .inl (some q) :: r => (match f with
      | 0 => ∃ t m, t ∈ [100, 101] ∧ lay q = (t, m) ∧ q < n ∧ K nx lv (.inr (.inl (m : Int)) :: r) n F I
      | 1 => q = EXT ∧ K nx lv (.inr (.inl (Int32.ofNat (gN G)).toInt) :: r) n F I
      | _ => (q = EXT + 1 ∧ K nx lv (.inr (.inl 6) :: r) n F I) ∨ (q = EXT + 2 ∧ K nx lv (.inr (.inl 24) :: r) n F I) ∨ (∃ j, j < 18 ∧ q = EXT + 40 + j ∧ K nx lv (.inr (.inl (strL.getD j 0 : Int)) :: r) n F I))
    | _ => False)
  | .new _ => lay n = (a, b) ∧ n + 1 ≤ n0 + alc k ∧ n + 1 ≤ EXT ∧ K nx lv (.inl (some n) :: st) (n + 1) (zF F n) (zI I n)
  | .newarray _ => (match st with
    | .inr (.inl x) :: r => lay n = (a, x.toNat) ∧ 0 ≤ x ∧ x < 100000 ∧ n + 1 ≤ n0 + alc k ∧ n + 1 ≤ EXT ∧ K nx lv (.inl (some n) :: r) (n + 1) (zF F n) (zI I n)
    | _ => False)
  | .anewarray _ => (match st with
    | .inr (.inl x) :: r => lay n = (a, x.toNat) ∧ 0 ≤ x ∧ x < 100000 ∧ n + 1 ≤ n0 + alc k ∧ n + 1 ≤ EXT ∧ K nx lv (.inl (some n) :: r) (n + 1) (zF F n) (zI I n)
    | _ => False)
  | .invokestatic _ => (match f with
    | 99 => (match st with
      | .inr (.inl len) :: .inr (.inl dp) :: .inl (some p) :: .inr (.inl sp) :: .inl (some q) :: r =>
        ∃ t m1 m2, t ∈ [100, 101] ∧ lay q = (t, m1) ∧ lay p = (t, m2) ∧ q < n ∧ p < n ∧ 0 ≤ sp ∧ 0 ≤ dp ∧ 0 ≤ len ∧ sp + len ≤ (m1 : Int) ∧ dp + len ≤ (m2 : Int) ∧ ctgs r ≤ 8 ∧ 1 ≤ d ∧ K nx lv r n F (cI I q sp.toNat p dp.toNat len.toNat)
      | _ => False)
    | _ => (match d with
      | 0 => False
      | d' + 1 => popN b st [] (fun as r => bif Nat.ble (ctgs r) 8 then CallN G d' a as n F I (fun rv F' I' => match rv with
        | none => K nx lv r n F' I'
        | some w => K nx lv (w :: r) n F' I') else False)))
  | .invokevirtual _ => (match d with
      | 0 => False
      | d' + 1 => popN (b + 1) st [] (fun as r => match as with
        | .inl (some q) :: _ => (bif Nat.ble (ctgs r) 8 then ((match v with
          | .inl (some c) => bif Nat.beq c 130 then (∃ i, i < 18 ∧ q = EXT + 10 + i) else (∃ m, lay q = (c, m) ∧ q < n)
          | _ => False) ∧ CallN G d' a as n F I (fun rv F' I' => match rv with
            | none => K nx lv r n F' I'
            | some w => K nx lv (w :: r) n F' I')) else False)
        | _ => False))
  | .invokespecial _ => (match f with
    | 98 => (match st with | .inl (some _) :: r => ctgs r ≤ 8 ∧ 1 ≤ d ∧ K nx lv r n F I | _ => False)
    | _ => (match d with
      | 0 => False
      | d' + 1 => popN (b + 1) st [] (fun as r => match as with
        | .inl (some _) :: _ => ctgs r ≤ 8 ∧ n + z ≤ n0 + alc k ∧ CallN G d' a as n F I (fun rv F' I' => match rv with
            | none => K nx lv r (n + z) F' I'
            | some _ => False)
        | _ => False)))
  | .ireturn => (match st with
    | [.inr (.inl x)] => n = n0 + alc k ∧ (match f with
      | 0 => Q (some (.inr (.inl x))) F I
      | 1 => (x = 0 ∨ x = 1) ∧ Q (some (.inr (.inl x))) F I
      | 2 => (0 ≤ x ∧ x < 65536) ∧ Q (some (.inr (.inl x))) F I
      | _ => (-128 ≤ x ∧ x < 128) ∧ Q (some (.inr (.inl x))) F I)
    | _ => False)
  | .lreturn => (match st with | [.inr (.inr x)] => n = n0 + alc k ∧ Q (some (.inr (.inr x))) F I | _ => False)
  | .areturn => (match st with | [.inl w] => n = n0 + alc k ∧ Q (some (.inl w)) F I | _ => False)
  | .return_ => (match st with | [] => n = n0 + alc k ∧ Q none F I | _ => False)
  | _ => False
def wp (G : pG) (d k n0 : Nat) (t : pT) (cuts : List Nat) (Q : Option pV → pF → pI → Prop) : Nat → Nat → List (Option pV) → List pV → Nat → pF → pI → Prop
  | 0, pc, lv, st, n, F, I => GoN G d k n0 n pc lv st F I Q
  | N + 1, pc, lv, st, n, F, I => match pAt t pc with
    | none => False
    | some e => stp G d k n0 e lv st n F I Q (fun pc' lv' st' n' F' I' => bif mmb cuts pc' then GoN G d k n0 n' pc' lv' st' F' I' Q else wp G d k n0 t cuts Q N pc' lv' st' n' F' I')
