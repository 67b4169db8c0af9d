/-! tops, breaks, what is spent, curves and lines, as functions of the stretches and the loads. Own work. -/
/-- the place of the top -/
def tpF (L : Nat → Int) : Nat → Int
  | 0 => -1
  | k + 1 => if 0 ≤ L k ∧ (tpF L k < 0 ∨ L (Int.toNat (tpF L k)) < L k) then (k : Int) else tpF L k
theorem tpF_b {L : Nat → Int} : ∀ k : Nat, -1 ≤ tpF L k ∧ tpF L k < k ∧ (0 ≤ tpF L k → 0 ≤ L (Int.toNat (tpF L k))) := by
  intro k
  induction k with
  | zero => refine ⟨?_, ?_, fun h => absurd h ?_⟩ <;> (show _; unfold tpF; omega)
  | succ k ih =>
    unfold tpF
    by_cases c : 0 ≤ L k ∧ (tpF L k < 0 ∨ L (Int.toNat (tpF L k)) < L k)
    · rw [if_pos c]; exact ⟨by omega, by omega, fun _ => by rw [Int.toNat_natCast]; exact c.1⟩
    · rw [if_neg c]; exact ⟨ih.1, by omega, ih.2.2⟩
theorem tpF_s {L : Nat → Int} {k : Nat} : (0 ≤ L k ∧ (tpF L k < 0 ∨ L (Int.toNat (tpF L k)) < L k) → tpF L (k + 1) = (k : Int)) ∧ (¬ (0 ≤ L k ∧ (tpF L k < 0 ∨ L (Int.toNat (tpF L k)) < L k)) → tpF L (k + 1) = tpF L k) :=
  ⟨fun h => if_pos h, fun h => if_neg h⟩
/-- the first good one, m from k on, whose load falls below -/
def brF (L : Nat → Int) (t f : Int) : Nat → Nat → Int
  | 0, _ => -1
  | m + 1, k => if 0 ≤ L k ∧ L k * 100 < t * (100 - f) then (k : Int) else brF L t f m (k + 1)
theorem brF_s {L : Nat → Int} {t f : Int} {m k : Nat} : (0 ≤ L k ∧ L k * 100 < t * (100 - f) → brF L t f (m + 1) k = (k : Int)) ∧ (¬ (0 ≤ L k ∧ L k * 100 < t * (100 - f)) → brF L t f (m + 1) k = brF L t f m (k + 1)) :=
  ⟨fun h => if_pos h, fun h => if_neg h⟩
/-- what is spent, and the good one ahead -/
def spnF (S L : Nat → Int) : Nat → Int × Int
  | 0 => (0, -1)
  | k + 1 => if 0 ≤ L k then ((spnF S L k).1 + (if (spnF S L k).2 < 0 then 0 else (if S k - S (Int.toNat (spnF S L k).2) < 0 then 0 else S k - S (Int.toNat (spnF S L k).2)) * (L (Int.toNat (spnF S L k).2) + L k)), (k : Int)) else spnF S L k
/-- below the line through i and j less the offset: above 0 -/
def pA (S L : Nat → Int) (i j k : Nat) : Int := (L j - L i) * (S k - S i)
def pB (S L : Nat → Int) (i j k : Nat) (o : Int) : Int := (L k - L i + o) * (S j - S i)
def blF (S L : Nat → Int) (i j k : Nat) (o : Int) : Int := if S j - S i < 0 then -(pA S L i j k - pB S L i j k o) else pA S L i j k - pB S L i j k o
/-- how many of the first ones lie on it -/
def lyF (S L : Nat → Int) (i j : Nat) : Nat → Int
  | 0 => 0
  | k + 1 => lyF S L i j k + (if 0 ≤ L k ∧ blF S L i j k 0 = 0 then 1 else 0)
def trF (S L : Nat → Int) (n i j : Nat) (T : Int × Int × Int) : Int × Int × Int :=
  if 0 ≤ L i ∧ 0 ≤ L j ∧ ¬ S i = S j then (if T.2.2 < lyF S L i j n then ((i : Int), (j : Int), lyF S L i j n) else T) else T
def inF (S L : Nat → Int) (n i : Nat) : Nat → Nat → Int × Int × Int → Int × Int × Int
  | 0, _, T => T
  | m + 1, j, T => inF S L n i m (j + 1) (trF S L n i j T)
/-- first, second, how many lie: m from i on -/
def otF (S L : Nat → Int) (n : Nat) : Nat → Nat → Int × Int × Int → Int × Int × Int
  | 0, _, T => T
  | m + 1, i, T => otF S L n m (i + 1) (inF S L n i (n - (i + 1)) (i + 1) T)
/-- the first good one below, m from k on -/
def ylF (S L : Nat → Int) (i j : Nat) (o : Int) : Nat → Nat → Int
  | 0, _ => -1
  | m + 1, k => if 0 ≤ L k ∧ 0 < blF S L i j k o then (k : Int) else ylF S L i j o m (k + 1)
