/-! tops, breaks, what is spent, curves and lines, as functions of the stretches and the loads. Own work. -/
/-- the place of the top -/
def tpF (L : Nat → Int) : Nat → Int
  | 0 => -1
  | k + 1 => if 0 ≤ L k ∧ (tpF L k < 0 ∨ L (Int.toNat (tpF L k)) < L k) then (k : Int) else tpF L k
theorem tpF_b {L : Nat → Int} : ∀ k : Nat, -1 ≤ tpF L k ∧ tpF L k < k ∧ (0 ≤ tpF L k → 0 ≤ L (Int.toNat (tpF L k))) := by
  intro k
  induction k with
  | zero => refine ⟨?_, ?_, fun h => absurd h ?_⟩ <;> (show _; unfold tpF; omega)
  | succ k ih =>
    unfold tpF
    by_cases c : 0 ≤ L k ∧ (tpF L k < 0 ∨ L (Int.toNat (tpF L k)) < L k)
    · rw [if_pos c]; exact ⟨by omega, by omega, fun _ => by rw [Int.toNat_natCast]; exact c.1⟩
    · rw [if_neg c]; exact ⟨ih.1, by omega, ih.2.2⟩
theorem tpF_s {L : Nat → Int} {k : Nat} : (0 ≤ L k ∧ (tpF L k < 0 ∨ L (Int.toNat (tpF L k)) < L k) → tpF L (k + 1) = (k : Int)) ∧ (¬ (0 ≤ L k ∧ (tpF L k < 0 ∨ L (Int.toNat (tpF L k)) < L k)) → tpF L (k + 1) = tpF L k) :=
  ⟨fun h => if_pos h, fun h => if_neg h⟩
/-- the first good one, m from k on, whose load falls below -/
def brF (L : Nat → Int) (t f : Int) : Nat → Nat → Int
  | 0, _ => -1
  | m + 1, k => if 0 ≤ L k ∧ L k * 100 < t * (100 - f) then (k : Int) else brF L t f m (k + 1)
theorem brF_s {L : Nat → Int} {t f : Int} {m k : Nat} : (0 ≤ L k ∧ L k * 100 < t * (100 - f) → brF L t f (m + 1) k = (k : Int)) ∧ (¬ (0 ≤ L k ∧ L k * 100 < t * (100 - f)) → brF L t f (m + 1) k = brF L t f m (k + 1)) :=
  ⟨fun h => if_pos h, fun h => if_neg h⟩
