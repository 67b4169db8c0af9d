/-! tops, breaks, what is spent, curves and lines, as functions of the stretches and the loads. Own work. -/
/-- what is spent, and the good one ahead -/
def spnF (S L : Nat → Int) : Nat → Int × Int
  | 0 => (0, -1)
  | k + 1 => if 0 ≤ L k then ((spnF S L k).1 + (if (spnF S L k).2 < 0 then 0 else (if S k - S (Int.toNat (spnF S L k).2) < 0 then 0 else S k - S (Int.toNat (spnF S L k).2)) * (L (Int.toNat (spnF S L k).2) + L k)), (k : Int)) else spnF S L k
