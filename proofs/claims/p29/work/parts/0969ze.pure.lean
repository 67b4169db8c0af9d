/-! what both sides tell of a piece's readings, as functions of the stretches and the loads below their number. Own work. -/
def nz (f : Nat → Int) (n : Int) (k : Nat) : Int := if (k : Int) < n then f k else 0
theorem nz_i {f : Nat → Int} {n : Int} {k : Nat} (h : (k : Int) < n) : nz f n k = f k := if_pos h
theorem nza {f : Nat → Int} {n lo hi : Int} (h0 : lo ≤ 0 ∧ 0 ≤ hi) (hg : ∀ k : Nat, (k : Int) < n → lo ≤ f k ∧ f k ≤ hi) (k : Nat) : lo ≤ nz f n k ∧ nz f n k ≤ hi := by
  unfold nz
  by_cases c : (k : Int) < n
  · rw [if_pos c]; exact hg k c
  · rw [if_neg c]; exact h0
