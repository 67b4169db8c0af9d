/-! THE WALKING MACHINE: values, states, one instruction as a proposition in the style of continuations. Own work. -/
/-- a value: a place (or none), a whole number of 32 bits, of 64 bits -/
abbrev pV : Type := Option Nat ⊕ (Int ⊕ Int)
abbrev vi (z : Int) : pV := Sum.inr (Sum.inl z)
abbrev vl (z : Int) : pV := Sum.inr (Sum.inr z)
abbrev vr (k : Nat) : pV := Sum.inl (some k)
abbrev vn : pV := Sum.inl none
abbrev pF : Type := Nat → Nat → Option Nat
abbrev pI : Type := Nat → Nat → Int
def wr (z : Int) : Int := (z + 2147483648) % 4294967296 - 2147483648
def wl (z : Int) : Int := (z + 9223372036854775808) % 18446744073709551616 - 9223372036854775808
def wb (z : Int) : Int := (z + 128) % 256 - 128
def wsh (z : Int) : Int := (z + 32768) % 65536 - 32768
def lcm (x y : Int) : Int := if x < y then -1 else if x = y then 0 else 1
def iR (z : Int) : Prop := -2147483648 ≤ z ∧ z < 2147483648
def lR (z : Int) : Prop := -9223372036854775808 ≤ z ∧ z < 9223372036854775808
def bI (x y : Int) : Int := ((Int32.ofInt x) &&& (Int32.ofInt y)).toInt
def oI (x y : Int) : Int := ((Int32.ofInt x) ||| (Int32.ofInt y)).toInt
def xI (x y : Int) : Int := ((Int32.ofInt x) ^^^ (Int32.ofInt y)).toInt
def slI (x y : Int) : Int := ((Int32.ofInt x) <<< ((Int32.ofInt y) &&& 31)).toInt
def srI (x y : Int) : Int := ((Int32.ofInt x) >>> ((Int32.ofInt y) &&& 31)).toInt
def suI (x y : Int) : Int := (((Int32.ofInt x).toUInt32 >>> ((Int32.ofInt y).toUInt32 &&& Int32.toUInt32 31)).toInt32).toInt
def bL (x y : Int) : Int := ((Int64.ofInt x) &&& (Int64.ofInt y)).toInt
def oL (x y : Int) : Int := ((Int64.ofInt x) ||| (Int64.ofInt y)).toInt
def slL (x y : Int) : Int := ((Int64.ofInt x) <<< ((Int32.ofInt y).toInt64 &&& 63)).toInt
def srL (x y : Int) : Int := ((Int64.ofInt x) >>> ((Int32.ofInt y).toInt64 &&& 63)).toInt
def okV : pV → Prop
  | .inr (.inl z) => iR z
  | .inr (.inr z) => lR z
  | _ => True
def ctg : pV → Nat
  | .inr (.inr _) => 2
  | _ => 1
def uI (I : pI) (q b : Nat) (x : Int) : pI := fun k j => if k = q ∧ j = b then x else I k j
def uF (F : pF) (q b : Nat) (x : Option Nat) : pF := fun k j => if k = q ∧ j = b then x else F k j
/-- a new row's numbers -/
def zI (I : pI) (q : Nat) : pI := fun k j => if k = q then 0 else I k j
def zF (F : pF) (q : Nat) : pF := fun k j => if k = q then none else F k j
/-- a stretch of a row put into another one, as they all were -/
def cI (I : pI) (q sp p dp n : Nat) : pI := fun k j => if k = p ∧ dp ≤ j ∧ j < dp + n then I q (sp + (j - dp)) else I k j
/-- an instruction of a table: itself, the next place, four numbers, a mark, cells that it makes, a value, a switch -/
abbrev pE : Type := Instr × Nat × Nat × Nat × Nat × Nat × Nat × pV × List (Int × Nat)
abbrev pT : Type := List (List (Nat × pE))
def pf : List (Nat × pE) → Nat → Option pE
  | [], _ => none
  | (q, e) :: t, pc => bif Nat.beq q pc then some e else pf t pc
def pg : pT → Nat → List (Nat × pE)
  | [], _ => []
  | c :: _, 0 => c
  | _ :: t, i + 1 => pg t i
def pAt (t : pT) (pc : Nat) : Option pE := pf (pg t (pc / 16)) pc
/-- a local -/
def lg : List (Option pV) → Nat → Option pV
  | [], _ => none
  | x :: _, 0 => x
  | _ :: t, i + 1 => lg t i
/-- a value of 64 bits whose second half is overwritten is lost -/
def lk : Option pV → Option pV
  | some (.inr (.inr _)) => none
  | x => x
def ls1 : List (Option pV) → Nat → pV → (List (Option pV) → Prop) → Prop
  | [], _, _, k => k []
  | _ :: t, 0, v, k => k (some v :: t)
  | a :: t, i + 1, v, k => match i with
    | 0 => (match a with
      | some (.inr (.inr _)) => ls1 t 0 v (fun t' => k (none :: t'))
      | some (.inr (.inl z)) => ls1 t 0 v (fun t' => k (some (.inr (.inl z)) :: t'))
      | some (.inl r) => ls1 t 0 v (fun t' => k (some (.inl r) :: t'))
      | none => ls1 t 0 v (fun t' => k (none :: t')))
    | j + 1 => ls1 t (j + 1) v (fun t' => k (a :: t'))
def lcl : List (Option pV) → List (Option pV)
  | [] => []
  | _ :: t => none :: t
def ls2 : List (Option pV) → Nat → pV → (List (Option pV) → Prop) → Prop
  | [], _, _, k => k []
  | _ :: t, 0, v, k => match t with
    | [] => k [some v]
    | _ :: t' => k (some v :: none :: t')
  | a :: t, i + 1, v, k => match i with
    | 0 => (match a with
      | some (.inr (.inr _)) => ls2 t 0 v (fun t' => k (none :: t'))
      | some (.inr (.inl z)) => ls2 t 0 v (fun t' => k (some (.inr (.inl z)) :: t'))
      | some (.inl r) => ls2 t 0 v (fun t' => k (some (.inl r) :: t'))
      | none => ls2 t 0 v (fun t' => k (none :: t')))
    | j + 1 => ls2 t (j + 1) v (fun t' => k (a :: t'))
/-- the locals at a method's entry -/
def lvA : List pV → List (Option pV)
  | [] => []
  | v :: t => match v with
    | .inr (.inr z) => some (.inr (.inr z)) :: none :: lvA t
    | .inr (.inl z) => some (.inr (.inl z)) :: lvA t
    | .inl r => some (.inl r) :: lvA t
def lvN : Nat → List (Option pV)
  | 0 => []
  | n + 1 => none :: lvN n
def mmb : List Nat → Nat → Bool
  | [], _ => false
  | q :: t, pc => bif Nat.beq q pc then true else mmb t pc
def popN : Nat → List pV → List pV → (List pV → List pV → Prop) → Prop
  | 0, st, acc, k => k acc st
  | _ + 1, [], _, _ => False
  | n + 1, x :: t, acc, k => popN n t (x :: acc) k
def ctgs : List pV → Nat
  | [] => 0
  | .inr (.inr _) :: t => 2 + ctgs t
  | .inr (.inl _) :: t => 1 + ctgs t
  | .inl _ :: t => 1 + ctgs t
def br (c : Jvm.ClassFile.Cond) (x y : Int) (P Q : Prop) : Prop := match c with
  | .eq => (x = y → P) ∧ (¬ x = y → Q)
  | .ne => (¬ x = y → P) ∧ (x = y → Q)
  | .lt => (x < y → P) ∧ (¬ x < y → Q)
  | .ge => (y ≤ x → P) ∧ (¬ y ≤ x → Q)
  | .gt => (y < x → P) ∧ (¬ y < x → Q)
  | .le => (x ≤ y → P) ∧ (¬ x ≤ y → Q)
def swp (x : Int) (d : Nat) (K : Nat → Prop) : List (Int × Nat) → Prop
  | [] => K d
  | (v, t) :: r => (x = v → K t) ∧ (¬ x = v → swp x d K r)
abbrev EXT : Nat := 4096
