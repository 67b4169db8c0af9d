/-! what run answers and keeps is the same on both sides. Own work. -/
def RUC (v0 v1 r : Int) (J I : pI) : Prop := ((¬ ((0 ≤ v0 ∧ v0 < 4) ∧ 0 ≤ v1 ∧ v1 < I 1 1) → r = -1000001 ∧ (∀ k j, 20 ≤ k → k < 90 → J k j = I k j) ∧ (∀ j, J 6 j = I 6 j) ∧ J 1 7 = I 1 7) ∧ (((0 ≤ v0 ∧ v0 < 4) ∧ 0 ≤ v1 ∧ v1 < I 1 1) → (I (1 + 89 + 3 * Int.toNat v0) 0 = 0 → r = -1000002 ∧ (∀ k j, 20 ≤ k → k < 90 → J k j = I k j) ∧ (∀ j, J 6 j = I 6 j) ∧ J 1 7 = I 1 7) ∧ (¬ I (1 + 89 + 3 * Int.toNat v0) 0 = 0 → r = (rnF (ldC I (1 + 19 + 5 * Int.toNat v1)) (pmC I (1 + 19 + 5 * Int.toNat v1)) (I ((1 + 89 + 3 * Int.toNat v0) + 1)) (I ((1 + 89 + 3 * Int.toNat v0) + 2)) (Int.toNat (I (1 + 89 + 3 * Int.toNat v0) 3)) (Int.toNat (I (1 + 89 + 3 * Int.toNat v0) 4))) 0 2 ∧ J ((1 + 19 + 5 * Int.toNat v1) + 2) 2 = (rnF (ldC I (1 + 19 + 5 * Int.toNat v1)) (pmC I (1 + 19 + 5 * Int.toNat v1)) (I ((1 + 89 + 3 * Int.toNat v0) + 1)) (I ((1 + 89 + 3 * Int.toNat v0) + 2)) (Int.toNat (I (1 + 89 + 3 * Int.toNat v0) 3)) (Int.toNat (I (1 + 89 + 3 * Int.toNat v0) 4))) 0 5 ∧ (∀ i : Nat, (i : Int) < (rnF (ldC I (1 + 19 + 5 * Int.toNat v1)) (pmC I (1 + 19 + 5 * Int.toNat v1)) (I ((1 + 89 + 3 * Int.toNat v0) + 1)) (I ((1 + 89 + 3 * Int.toNat v0) + 2)) (Int.toNat (I (1 + 89 + 3 * Int.toNat v0) 3)) (Int.toNat (I (1 + 89 + 3 * Int.toNat v0) 4))) 0 5 → J ((1 + 19 + 5 * Int.toNat v1) + 3) i = (rnF (ldC I (1 + 19 + 5 * Int.toNat v1)) (pmC I (1 + 19 + 5 * Int.toNat v1)) (I ((1 + 89 + 3 * Int.toNat v0) + 1)) (I ((1 + 89 + 3 * Int.toNat v0) + 2)) (Int.toNat (I (1 + 89 + 3 * Int.toNat v0) 3)) (Int.toNat (I (1 + 89 + 3 * Int.toNat v0) 4))) 2 i ∧ J ((1 + 19 + 5 * Int.toNat v1) + 4) i = (rnF (ldC I (1 + 19 + 5 * Int.toNat v1)) (pmC I (1 + 19 + 5 * Int.toNat v1)) (I ((1 + 89 + 3 * Int.toNat v0) + 1)) (I ((1 + 89 + 3 * Int.toNat v0) + 2)) (Int.toNat (I (1 + 89 + 3 * Int.toNat v0) 3)) (Int.toNat (I (1 + 89 + 3 * Int.toNat v0) 4))) 3 i) ∧ (J 6 0 = (rnF (ldC I (1 + 19 + 5 * Int.toNat v1)) (pmC I (1 + 19 + 5 * Int.toNat v1)) (I ((1 + 89 + 3 * Int.toNat v0) + 1)) (I ((1 + 89 + 3 * Int.toNat v0) + 2)) (Int.toNat (I (1 + 89 + 3 * Int.toNat v0) 3)) (Int.toNat (I (1 + 89 + 3 * Int.toNat v0) 4))) 0 2 ∧ J 6 1 = (rnF (ldC I (1 + 19 + 5 * Int.toNat v1)) (pmC I (1 + 19 + 5 * Int.toNat v1)) (I ((1 + 89 + 3 * Int.toNat v0) + 1)) (I ((1 + 89 + 3 * Int.toNat v0) + 2)) (Int.toNat (I (1 + 89 + 3 * Int.toNat v0) 3)) (Int.toNat (I (1 + 89 + 3 * Int.toNat v0) 4))) 0 3 ∧ J 6 2 = (rnF (ldC I (1 + 19 + 5 * Int.toNat v1)) (pmC I (1 + 19 + 5 * Int.toNat v1)) (I ((1 + 89 + 3 * Int.toNat v0) + 1)) (I ((1 + 89 + 3 * Int.toNat v0) + 2)) (Int.toNat (I (1 + 89 + 3 * Int.toNat v0) 3)) (Int.toNat (I (1 + 89 + 3 * Int.toNat v0) 4))) 0 0 ∧ J 6 3 = enF (ldC I (1 + 19 + 5 * Int.toNat v1)) (pmC I (1 + 19 + 5 * Int.toNat v1)) (I ((1 + 89 + 3 * Int.toNat v0) + 1)) (I ((1 + 89 + 3 * Int.toNat v0) + 2)) (Int.toNat (I (1 + 89 + 3 * Int.toNat v0) 3)) ∧ J 1 7 = 1) ∧ ∀ k j, 20 ≤ k → k < 90 → ¬ ((1 + 19 + 5 * Int.toNat v1) + 2 ≤ k ∧ k ≤ (1 + 19 + 5 * Int.toNat v1) + 4) → J k j = I k j)))
def RUR (v0 v1 r : Int) (K J : pI) : Prop := ((¬ ((0 ≤ v0 ∧ v0 ≤ 3) ∧ 0 ≤ v1 ∧ v1 < J 236 0) → r = -1000001 ∧ ∀ j, K 236 j = J 236 j) ∧ (((0 ≤ v0 ∧ v0 ≤ 3) ∧ 0 ≤ v1 ∧ v1 < J 236 0) → (J 236 (40 + 36 * (Int.toNat v0)) ≤ 0 → r = -1000002 ∧ ∀ j, K 236 j = J 236 j) ∧ (0 < J 236 (40 + 36 * (Int.toNat v0)) → r = (rnF (ldR J (Int.toNat v1)) (pmR J (Int.toNat v1)) (fun k => J 236 (42 + 36 * (Int.toNat v0) + 2 * k)) (fun k => J 236 (43 + 36 * (Int.toNat v0) + 2 * k)) (Int.toNat (J 236 (41 + 36 * (Int.toNat v0)))) (Int.toNat (J 236 (40 + 36 * (Int.toNat v0))))) 0 2 ∧ K 236 (304 + 66 * (Int.toNat v1) + 4) = (rnF (ldR J (Int.toNat v1)) (pmR J (Int.toNat v1)) (fun k => J 236 (42 + 36 * (Int.toNat v0) + 2 * k)) (fun k => J 236 (43 + 36 * (Int.toNat v0) + 2 * k)) (Int.toNat (J 236 (41 + 36 * (Int.toNat v0)))) (Int.toNat (J 236 (40 + 36 * (Int.toNat v0))))) 0 5 ∧ (∀ i : Nat, (i : Int) < (rnF (ldR J (Int.toNat v1)) (pmR J (Int.toNat v1)) (fun k => J 236 (42 + 36 * (Int.toNat v0) + 2 * k)) (fun k => J 236 (43 + 36 * (Int.toNat v0) + 2 * k)) (Int.toNat (J 236 (41 + 36 * (Int.toNat v0)))) (Int.toNat (J 236 (40 + 36 * (Int.toNat v0))))) 0 5 → K 236 (304 + 66 * (Int.toNat v1) + 17 + 2 * i) = (rnF (ldR J (Int.toNat v1)) (pmR J (Int.toNat v1)) (fun k => J 236 (42 + 36 * (Int.toNat v0) + 2 * k)) (fun k => J 236 (43 + 36 * (Int.toNat v0) + 2 * k)) (Int.toNat (J 236 (41 + 36 * (Int.toNat v0)))) (Int.toNat (J 236 (40 + 36 * (Int.toNat v0))))) 2 i ∧ K 236 (304 + 66 * (Int.toNat v1) + 18 + 2 * i) = (rnF (ldR J (Int.toNat v1)) (pmR J (Int.toNat v1)) (fun k => J 236 (42 + 36 * (Int.toNat v0) + 2 * k)) (fun k => J 236 (43 + 36 * (Int.toNat v0) + 2 * k)) (Int.toNat (J 236 (41 + 36 * (Int.toNat v0)))) (Int.toNat (J 236 (40 + 36 * (Int.toNat v0))))) 3 i) ∧ (K 236 9 = 1 ∧ K 236 10 = (rnF (ldR J (Int.toNat v1)) (pmR J (Int.toNat v1)) (fun k => J 236 (42 + 36 * (Int.toNat v0) + 2 * k)) (fun k => J 236 (43 + 36 * (Int.toNat v0) + 2 * k)) (Int.toNat (J 236 (41 + 36 * (Int.toNat v0)))) (Int.toNat (J 236 (40 + 36 * (Int.toNat v0))))) 0 2 ∧ K 236 11 = (rnF (ldR J (Int.toNat v1)) (pmR J (Int.toNat v1)) (fun k => J 236 (42 + 36 * (Int.toNat v0) + 2 * k)) (fun k => J 236 (43 + 36 * (Int.toNat v0) + 2 * k)) (Int.toNat (J 236 (41 + 36 * (Int.toNat v0)))) (Int.toNat (J 236 (40 + 36 * (Int.toNat v0))))) 0 3 ∧ K 236 12 = (rnF (ldR J (Int.toNat v1)) (pmR J (Int.toNat v1)) (fun k => J 236 (42 + 36 * (Int.toNat v0) + 2 * k)) (fun k => J 236 (43 + 36 * (Int.toNat v0) + 2 * k)) (Int.toNat (J 236 (41 + 36 * (Int.toNat v0)))) (Int.toNat (J 236 (40 + 36 * (Int.toNat v0))))) 0 0 ∧ K 236 13 = enF (ldR J (Int.toNat v1)) (pmR J (Int.toNat v1)) (fun k => J 236 (42 + 36 * (Int.toNat v0) + 2 * k)) (fun k => J 236 (43 + 36 * (Int.toNat v0) + 2 * k)) (Int.toNat (J 236 (41 + 36 * (Int.toNat v0))))) ∧ ∀ j : Nat, ¬ (9 ≤ j ∧ j ≤ 13) → ¬ (j = 304 + 66 * (Int.toNat v1) + 4) → ¬ (304 + 66 * (Int.toNat v1) + 17 ≤ j ∧ j < 304 + 66 * (Int.toNat v1) + 66) → K 236 j = J 236 j)))
theorem run_v {I J K : pI} {v p r r' : Int} (hR : Rg I) (hP : LPc I) (hl : ∀ j, j < 5 → I 4 (j + 0) = I 236 (4 + 1 * j)) (hg : LGc I) (eO : I 1 1 = I 236 0) (h4 : ∀ k j, 235 ≤ k → J k j = I k j) (c : RUC v p r J I) (d : RUR v p r' K J) :
    (r = r' ∧ (∀ j, J 6 j = I 6 j) ∧ J 1 7 = I 1 7 ∧ ∀ j, 9 ≤ j → j < 14 → K 236 j = J 236 j) ∨ (r = r' ∧ J 1 7 = 1 ∧ K 236 9 = 1 ∧ ∀ j, j < 4 → J 6 j = K 236 (10 + j)) := by
  have n := Rg.n0 hR
  have j0 : J 236 0 = I 236 0 := h4 236 0 (by decide)
  have e4 : ∀ j, J 236 j = I 236 j := fun j => h4 236 j (by decide)
  by_cases w : (0 ≤ v ∧ v < 4) ∧ 0 ≤ p ∧ p < I 1 1
  · have cw := c.2 w
    have dw := d.2 ⟨by omega, by omega, by omega⟩
    have g := (hg (Int.toNat v) (by omega)).2.1
    rw [show 90 + 3 * Int.toNat v = 1 + 89 + 3 * Int.toNat v from by omega, ← e4 (40 + 36 * Int.toNat v)] at g
    by_cases t : I (1 + 89 + 3 * Int.toNat v) 0 = 0
    · have a := cw.1 t
      have b := dw.1 (by have := g.1 t; omega)
      exact Or.inl ⟨a.1.trans b.1.symm, a.2.2.1, a.2.2.2, fun j _ _ => b.2 j⟩
    · have a := cw.2 t
      have b := dw.2 (g.2 t)
      have z := rn_e (v := Int.toNat v) (p := Int.toNat p) (by omega) (hP (Int.toNat p) (by omega)) (fun j hj => by have y := hl j hj; rwa [show 4 + 1 * j = 4 + j from by omega] at y) hg e4
      rw [z.1, z.2] at a
      obtain ⟨a0, _, _, ⟨a1, a2, a3, a5, a6⟩, _⟩ := a
      obtain ⟨b0, _, _, ⟨b9, b1, b2, b3, b5⟩, _⟩ := b
      refine Or.inr ⟨a0.trans b0.symm, a6, b9, fun j hj => ?_⟩
      have q : j = 0 ∨ j = 1 ∨ j = 2 ∨ j = 3 := by omega
      rcases q with rfl | rfl | rfl | rfl
      · exact a1.trans b1.symm
      · exact a2.trans b2.symm
      · exact a3.trans b3.symm
      · exact a5.trans b5.symm
  · have cw := c.1 w
    have dw := d.1 (by omega)
    exact Or.inl ⟨cw.1.trans dw.1.symm, cw.2.2.1, cw.2.2.2, fun j _ _ => dw.2 j⟩
theorem run_e {I J K : pI} {v p r r' : Int} (hR : Rg I) (hP : LPc I) (hl : ∀ j, j < 5 → I 4 (j + 0) = I 236 (4 + 1 * j)) (hg : LGc I) (eO : I 1 1 = I 236 0) (h4 : ∀ k j, 235 ≤ k → J k j = I k j) (c : RUC v p r J I) (d : RUR v p r' K J) : r = r' := by
  rcases run_v hR hP hl hg eO h4 c d with h | h
  · exact h.1
  · exact h.1
theorem run_w {I J K : pI} {v p r r' : Int} (hR : Rg I) (hP : LPc I) (hl : ∀ j, j < 5 → I 4 (j + 0) = I 236 (4 + 1 * j)) (hg : LGc I) (eO : I 1 1 = I 236 0) (h4 : ∀ k j, 235 ≤ k → J k j = I k j) (h5 : ∀ k j, k < 235 → K k j = J k j) (c : RUC v p r J I) (d : RUR v p r' K J)
    (e7 : I 1 7 = I 236 9) (e6 : ∀ j, j < 4 → I 6 j = I 236 (10 + j)) : K 1 7 = K 236 9 ∧ ∀ j, j < 4 → K 6 j = K 236 (10 + j) := by
  rw [h5 1 7 (by decide)]
  rcases run_v hR hP hl hg eO h4 c d with h | h
  · refine ⟨by rw [h.2.2.1, h.2.2.2 9 (by decide) (by decide), h4 236 _ (by decide)]; exact e7, fun j hj => ?_⟩
    rw [h5 6 j (by decide), h.2.1, h.2.2.2 (10 + j) (by omega) (by omega), h4 236 _ (by decide)]
    exact e6 j hj
  · refine ⟨h.2.1.trans h.2.2.1.symm, fun j hj => ?_⟩
    rw [h5 6 j (by decide)]
    exact h.2.2.2 j hj
