/-! the machine's state seen as a state of the walking machine; what a stretch of code does, what a call does. Own work. -/
/-- launch, the first new cell, the tables' numbers, the classes of rows, the addresses of what was there before, the script's length and numbers, the one value of which nothing is known -/
abbrev pG : Type := Launch × Nat × va_G × (Nat → ClassId) × (Nat → Nat) × Nat × (Nat → Int32) × pV
abbrev gL (G : pG) : Launch := G.1
abbrev gH (G : pG) : Nat := G.2.1
abbrev gD (G : pG) : va_G := G.2.2.1
abbrev gC (G : pG) : Nat → ClassId := G.2.2.2.1
abbrev gA (G : pG) : Nat → Nat := G.2.2.2.2.1
abbrev gN (G : pG) : Nat := G.2.2.2.2.2.1
abbrev gX (G : pG) : Nat → Int32 := G.2.2.2.2.2.2.1
abbrev gS (G : pG) : pV := G.2.2.2.2.2.2.2
def ad (G : pG) (k : Nat) : Nat := if k < EXT then gH G + k else gA G (k - EXT)
def tr (G : pG) : pV → Value
  | .inl none => .null
  | .inl (some k) => .ref (ad G k)
  | .inr (.inl z) => .int (Int32.ofInt z)
  | .inr (.inr z) => .long (Int64.ofInt z)
def tyA (t : Nat) : FieldType := if t = 100 then .int else if t = 101 then .byte else if t = 204 then .object RX4 else if t = 205 then .object RX5 else if t = 207 then .object RX7 else .object RJ0
def kinds : List Nat := [100, 101, 204, 205, 207, 299]
def fV (G : pG) (F : pF) (I : pI) (k c j : Nat) : Value := if frf c j = true then va_rf ((F k j).map (ad G)) else .int (Int32.ofInt (I k j))
def cE (G : pG) (F : pF) (I : pI) (k : Nat) : va_E :=
  if (lay k).1 < 100 then .inr ((lay k).1, (List.range (lay k).2).map (fV G F I k (lay k).1))
  else if (lay k).1 < 200 then .inl (gC G (lay k).1, ((lay k).2, .inl (fun j => Int32.ofInt (I k j))))
  else .inl (gC G (lay k).1, ((lay k).2, .inr (.inr (.inr (.inr (fun j => (F k j).map (ad G)))))))
def wL (G : pG) (n : Nat) (F : pF) (I : pI) : va_W := (List.range n).map (fun k => (gH G + k, cE G F I k))
def A0 (G : pG) : Nat → Prop := fun q => gH G ≤ q
def Wd (G : pG) (n : Nat) (F : pF) (I : pI) (H : Heap) : Prop :=
  H.size = gH G + n ∧ va_P (gD G) vwCl (wL G n F I) H ∧ n ≤ EXT ∧ (∀ k j, iR (I k j)) ∧ ∀ k, (lay k).1 = 101 → ∀ j, -128 ≤ I k j ∧ I k j ≤ 127
def isNest : Jvm.Cond → Bool
  | .fieldLinkNest .. => true
  | .methodLinkNest .. => true
  | _ => false
/-- the texts -/
def KT (G : pG) (s : State) (H : Heap) : Prop := ∀ i, i < 18 →
  va_O "java/lang/String" (ad G (EXT + 10 + i)) (A0 G) s H ∧ va_OF "java/lang/String" "coder" "B" (.int 0) (ad G (EXT + 10 + i)) (A0 G) s H ∧ va_OF "java/lang/String" "value" "[B" (.ref (ad G (EXT + 40 + i))) (ad G (EXT + 10 + i)) (A0 G) s H ∧
  va_T .byte (ad G (EXT + 40 + i)) (strL.getD i 0) (fun j => .int (Int32.ofInt ((strB.getD i []).getD j 0))) (A0 G) s H ∧ vk_R (strO.getD i ("", 0, "", 0)).1 (strO.getD i ("", 0, "", 0)).2.1 (strO.getD i ("", 0, "", 0)).2.2.1 (ad G (EXT + 10 + i)) s
/-- what was there before: the script, the classes' own rows, the texts -/
def KX (G : pG) (s : State) (H : Heap) : Prop :=
  (va_X (ad G EXT) (gN G) (gX G) s H ∧ ad G EXT < gH G) ∧
  (va_T .int (ad G (EXT + 1)) 6 (fun j => .int (Int32.ofInt (aboveT.getD j 0))) (A0 G) s H ∧ va_Z "StrengthHouse$Piece" "ABOVE" "[I" (.ref (ad G (EXT + 1))) (A0 G) s H) ∧
  (va_T .int (ad G (EXT + 2)) 24 (fun j => .int (Int32.ofInt (bodiesT.getD j 0))) (A0 G) s H ∧ va_Z "StrengthHouse$Voices" "BODIES" "[I" (.ref (ad G (EXT + 2))) (A0 G) s H) ∧
  va_Z "java/lang/String" "COMPACT_STRINGS" "Z" (.int 1) (A0 G) s H ∧
  va_Z "jdk/internal/util/Preconditions" "SIOOBE_FORMATTER" "Ljava/util/function/BiFunction;" (tr G (gS G)) (A0 G) s H ∧
  KT G s H ∧
  (∀ (c : Nat) (q : vw_C), vwCl[c]? = some q → u_Kn s q.1 q.2.1 q.2.2 ((gD G).1 c) ((gD G).2 c)) ∧
  (∀ t, t ∈ kinds → ArrOfT s (gC G t) (tyA t) ∧ va_RA s (gC G t) (tyA t)) ∧
  (∀ w, w ∈ lw_tbl → isNest w = true → va_Nw w s) ∧
  (va_AO RX4 s ∧ va_AO RX5 s ∧ va_AO RX7 s ∧ va_AO RJ0 s) ∧ (gS G = .inl none ∨ gS G = .inl (some (EXT + 4)))
def sz (n : Nat) : Nat := ((List.range n).map (fun k => (lay k).2)).sum
def Rm (d k n0 : Nat) : Room := { frames := d, cells := alc k, slots := sz (n0 + alc k) - sz n0, locals := 64 * d }
def mW (k : Nat) : List Jvm.Cond := .code (mY k) (mB k) (mL k) (mR k) :: goods
def Qc (G : pG) (n : Nat) (Q : Option pV → pF → pI → Prop) : Array Value → State → Outcome → State → Prop := fun _ _ o t =>
  ∃ (r : Option pV) (F : pF) (I : pI), o = .returned (r.map (tr G)) ∧ Q r F I ∧ Wd G n F I t.heap ∧ (∀ v, r = some v → okV v)
def Pc (G : pG) (as : List pV) (n : Nat) (F : pF) (I : pI) : Array Value → State → Prop := fun v U =>
  v = (as.map (tr G)).toArray ∧ KX G U U.heap ∧ Wd G n F I U.heap
/-- a call of method k -/
def Call (G : pG) (d k : Nat) (as : List pV) (n : Nat) (F : pF) (I : pI) (Q : Option pV → pF → pI → Prop) : Prop :=
  (∀ v ∈ as, okV v) → Met (gL G) (mY k) (mW k) (Rm d k n) (Pc G as n F I) (fun a st o t => Qc G (n + alc k) Q a st o t ∧ va_F (A0 G) st t) (alc k) (sz (n + alc k) - sz n) (A0 G)
/-- where a method stands -/
def Ct (G : pG) (d k n0 n : Nat) (F : pF) (I : pI) (p : Program) (e : Env) (s : State) (m : MethodId) (args : Array Value) (meth : Method) (c : Code) (H : Heap) (locs : List Loc) : Prop :=
  p.tables.exec = Jvm.exec ∧ c.code = mB k ∧ meth.sig.returnType = mR k ∧ meth.locks = false ∧ c.maxLocals = mL k ∧ s.vm.findClass (mY k).cls = some m.cls ∧
  (∀ w ∈ goods, w.before args s = true) ∧ (mK k = 2 → meth.name = "<init>") ∧ KX G s s.heap ∧ s.heap.size = gH G + n0 ∧ n0 ≤ n ∧ n ≤ n0 + alc k ∧ Wd G n F I H ∧ va_S (A0 G) s.heap H locs
def Hs (G : pG) (k : Nat) (ls : Array Slot) (lv : List (Option pV)) : Prop :=
  ls.size = mL k ∧ lv_wf ls ∧ lv.length = mL k ∧ ∀ (i : Nat) (v : pV), lv[i]? = some (some v) → okV v ∧ ls[i]? = some (Slot.val (tr G v))
/-- from here the method comes to its end with Q -/
def Go (G : pG) (d k n0 n pc : Nat) (lv : List (Option pV)) (st : List pV) (F : pF) (I : pI) (Q : Option pV → pF → pI → Prop) : Prop :=
  ∀ (p : Program) (e : Env) (s : State) (m : MethodId) (args : Array Value) (below : List Frame) (meth : Method) (c : Code) (H : Heap) (locs : List Loc) (ls : Array Slot),
    Ct G d k n0 n F I p e s m args meth c H locs → Hs G k ls lv → (∀ v ∈ st, okV v) →
    W p (gL G) e (Rm d k n0) s m args below meth c H locs (n - n0) (sz n - sz n0) (MQ below (fun a st o t => Qc G (n0 + alc k) Q a st o t ∧ va_F (A0 G) st t) args s (alc k) (sz (n0 + alc k) - sz n0) (A0 G)) (F0 m pc ls (st.map (tr G)))
/-- the same, shut: nothing that looks for a 'for all' or an 'and' looks into it -/
def GoN (G : pG) (d k n0 n pc : Nat) (lv : List (Option pV)) (st : List pV) (F : pF) (I : pI) (Q : Option pV → pF → pI → Prop) : Prop := Nonempty (Go G d k n0 n pc lv st F I Q)
def CallN (G : pG) (d k : Nat) (as : List pV) (n : Nat) (F : pF) (I : pI) (Q : Option pV → pF → pI → Prop) : Prop := Nonempty (Call G d k as n F I Q)
