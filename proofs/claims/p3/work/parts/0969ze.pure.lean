/-! what both sides tell of a piece's readings, as functions of the stretches and the loads below their number. Own work. -/
def nz (f : Nat → Int) (n : Int) (k : Nat) : Int := if (k : Int) < n then f k else 0
theorem nz_i {f : Nat → Int} {n : Int} {k : Nat} (h : (k : Int) < n) : nz f n k = f k := if_pos h
theorem nz_e {f g : Nat → Int} {n : Int} (h : ∀ k : Nat, (k : Int) < n → f k = g k) : nz f n = nz g n := funext (fun k => by
  unfold nz
  by_cases c : (k : Int) < n
  · rw [if_pos c, if_pos c]; exact h k c
  · rw [if_neg c, if_neg c])
/-- how many are good -/
def gdC (L : Nat → Int) : Nat → Int
  | 0 => 0
  | k + 1 => gdC L k + (if 0 ≤ L k then 1 else 0)
theorem gdC_s {L : Nat → Int} {k : Nat} : (0 ≤ L k → gdC L (k + 1) = gdC L k + 1) ∧ (¬ 0 ≤ L k → gdC L (k + 1) = gdC L k) := by
  refine ⟨fun h => ?_, fun h => ?_⟩
  · show gdC L k + (if 0 ≤ L k then 1 else 0) = _
    rw [if_pos h]
  · show gdC L k + (if 0 ≤ L k then 1 else 0) = _
    rw [if_neg h]; omega
/-- the readings of a piece, both sides' -/
theorem RQ_n {I : pI} {a R b : Nat} (h : REQ I a R b) : nz (I (a + 2 + 1)) (I (a + 2) 2) = nz (fun k => I R (b + 17 + 2 * k)) (I R (b + 4)) ∧ nz (I (a + 2 + 2)) (I (a + 2) 2) = nz (fun k => I R (b + 18 + 2 * k)) (I R (b + 4)) := by
  obtain ⟨e, f, _, _⟩ := h
  rw [← e]
  exact ⟨nz_e (fun k hk => (f k hk).1), nz_e (fun k hk => (f k hk).2)⟩
