/-! tops, breaks, what is spent, curves and lines, as functions of the stretches and the loads. Own work. -/
/-- the load on the curve at x: m from k on, a the good one ahead -/
def crF (S L : Nat → Int) (x : Int) : Nat → Nat → Int → Int
  | 0, _, _ => -1
  | m + 1, k, a => if 0 ≤ L k then (if 0 ≤ a ∧ S (Int.toNat a) ≤ x ∧ x ≤ S k then (if S k - S (Int.toNat a) = 0 then L (Int.toNat a) else L (Int.toNat a) + Int.tdiv ((L k - L (Int.toNat a)) * (x - S (Int.toNat a))) (S k - S (Int.toNat a))) else crF S L x m (k + 1) (k : Int)) else crF S L x m (k + 1) a
