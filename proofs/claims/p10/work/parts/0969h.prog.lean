/-! what program answers is the same on both sides. Own work. -/
def PGC (tt : Int → Int) (nn v0 r : Int) (J I : pI) : Prop := ((¬ (0 ≤ v0 ∧ v0 < 4) → r = -1000001 ∧ J 1 5 = I 1 5 ∧ ∀ k j, 90 ≤ k → k < 102 → J k j = I k j) ∧ ((0 ≤ v0 ∧ v0 < 4) → J 1 5 = 0 ∧ ∃ (x : Int) (m : Nat), RESP tt nn x m ∧ -1 ≤ x ∧ (0 ≤ x → r = -10 - x ∧ ∀ k j, 90 ≤ k → k < 102 → J k j = I k j) ∧ (x = -1 → r = m + 1 ∧ m < 17 ∧ (J (1 + 89 + 3 * Int.toNat v0) 0 = 1 ∧ J (1 + 89 + 3 * Int.toNat v0) 3 = fsP tt nn (m + 1) ∧ J (1 + 89 + 3 * Int.toNat v0) 4 = m + 1) ∧ (∀ k : Nat, k < m + 1 → J ((1 + 89 + 3 * Int.toNat v0) + 1) k = actP tt nn k ∧ J ((1 + 89 + 3 * Int.toNat v0) + 2) k = amP tt nn k) ∧ ∀ k j, 90 ≤ k → k < 102 → ¬ ((1 + 89 + 3 * Int.toNat v0) ≤ k ∧ k ≤ (1 + 89 + 3 * Int.toNat v0) + 2) → J k j = I k j)))
def PGR (tt : Int → Int) (nn v0 r : Int) (K J : pI) : Prop := ((¬ (0 ≤ v0 ∧ v0 ≤ 3) → r = -1000001 ∧ ∀ j : Nat, 40 ≤ j → j < 184 → K 236 j = J 236 j) ∧ ((0 ≤ v0 ∧ v0 ≤ 3) → ∃ (x : Int) (m : Nat), RESP tt nn x m ∧ -1 ≤ x ∧ (0 ≤ x → r = -10 - x ∧ ∀ j : Nat, 40 ≤ j → j < 184 → K 236 j = J 236 j) ∧ (x = -1 → r = m + 1 ∧ m < 16 ∧ K 236 (40 + 36 * Int.toNat v0) = m + 1 ∧ K 236 (40 + 36 * Int.toNat v0 + 1) = fsP tt nn (m + 1) ∧ (∀ k : Nat, k < m + 1 → K 236 (40 + 36 * Int.toNat v0 + (2 + 2 * k)) = actP tt nn k ∧ K 236 (40 + 36 * Int.toNat v0 + (3 + 2 * k)) = amP tt nn k) ∧ ∀ j : Nat, 40 ≤ j → j < 184 → ¬ (40 + 36 * Int.toNat v0 ≤ j ∧ j < 76 + 36 * Int.toNat v0) → K 236 j = J 236 j)))
theorem prog_e {tt : Int → Int} {nn v0 r r' : Int} {I J K J' : pI} (c : PGC tt nn v0 r J I) (d : PGR tt nn v0 r' K J') : r = r' := by
  by_cases w : 0 ≤ v0 ∧ v0 ≤ 3
  · obtain ⟨_, x, m, h1, h2, h3, h4⟩ := c.2 ⟨w.1, by omega⟩
    obtain ⟨y, p, g1, g2, g3, g4⟩ := d.2 w
    obtain ⟨e1, e2⟩ := RESP_u h1 g1
    subst e1
    subst e2
    by_cases z : 0 ≤ x
    · exact (h3 z).1.trans (g3 z).1.symm
    · exact (h4 (by omega)).1.trans (g4 (by omega)).1.symm
  · exact (c.1 (by omega)).1.trans (d.1 w).1.symm
theorem prog_t {tt : Int → Int} {nn v0 r : Int} {I J K : pI} (hR : Rg I) (h : LTc I) (h4 : ∀ k j, 235 ≤ k → J k j = I k j) (h5 : ∀ k j, k < 235 → K k j = J k j) (e5 : ∀ j, K 5 j = I 5 j) (eT : ∀ j, 1228 ≤ j → j < 1292 → K 236 j = I 236 j)
    (c : PGC tt nn v0 r J I) (d1 : 0 ≤ v0 ∧ v0 ≤ 3 → K 236 2 = 0) (d2 : ¬ (0 ≤ v0 ∧ v0 ≤ 3) → K 236 2 = J 236 2) : LTc K := by
  by_cases w : 0 ≤ v0 ∧ v0 ≤ 3
  · exact LTc_0 ((h5 1 5 (by decide)).trans (c.2 ⟨w.1, by omega⟩).1) (d1 w)
  · exact LTc_f hR h ((h5 1 5 (by decide)).trans (c.1 (by omega)).2.1) e5 ((d2 w).trans (h4 236 2 (by decide))) eT
