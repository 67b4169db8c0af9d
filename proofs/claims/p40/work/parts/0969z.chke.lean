/-! what check answers is the same on both sides. Own work. -/
def CKC (v0 v1 r : Int) (J I : pI) : Prop := (((¬ ((0 ≤ v0 ∧ v0 < 4) ∧ 0 ≤ v1 ∧ v1 < I 1 1) → r = -1000001) ∧ (((0 ≤ v0 ∧ v0 < 4) ∧ 0 ≤ v1 ∧ v1 < I 1 1) → (I (1 + 89 + 3 * Int.toNat v0) 0 = 0 → r = -1000002) ∧ (¬ I (1 + 89 + 3 * Int.toNat v0) 0 = 0 → r = chR (I 19) (rnF (ldC I (1 + 19 + 5 * Int.toNat v1)) (pmC I (1 + 19 + 5 * Int.toNat v1)) (I ((1 + 89 + 3 * Int.toNat v0) + 1)) (I ((1 + 89 + 3 * Int.toNat v0) + 2)) (Int.toNat (I (1 + 89 + 3 * Int.toNat v0) 3)) (Int.toNat (I (1 + 89 + 3 * Int.toNat v0) 4))) (I 1 11) 49 0))) ∧ J 1 11 = 0)
def CKR (v0 v1 r : Int) (K J : pI) : Prop := (((¬ ((0 ≤ v0 ∧ v0 ≤ 3) ∧ 0 ≤ v1 ∧ v1 < J 236 0) → r = -1000001) ∧ (((0 ≤ v0 ∧ v0 ≤ 3) ∧ 0 ≤ v1 ∧ v1 < J 236 0) → (J 236 (40 + 36 * (Int.toNat v0)) ≤ 0 → r = -1000002) ∧ (0 < J 236 (40 + 36 * (Int.toNat v0)) → r = chR (fun k => J 236 (1292 + k)) (rnF (ldR J (Int.toNat v1)) (pmR J (Int.toNat v1)) (fun k => J 236 (42 + 36 * (Int.toNat v0) + 2 * k)) (fun k => J 236 (43 + 36 * (Int.toNat v0) + 2 * k)) (Int.toNat (J 236 (41 + 36 * (Int.toNat v0)))) (Int.toNat (J 236 (40 + 36 * (Int.toNat v0))))) (J 236 3) 49 0))) ∧ K 236 3 = 0)
theorem chk_e {I J K : pI} {v p r r' : Int} (hR : Rg I) (hP : LPc I) (hl : ∀ j, j < 5 → I 4 (j + 0) = I 236 (4 + 1 * j)) (hg : LGc I) (eO : I 1 1 = I 236 0) (e3 : I 1 11 = I 236 3) (ew : ∀ j, j < 48 → I 19 j = I 236 (1292 + j)) (h4 : ∀ k j, 235 ≤ k → J k j = I k j) (c : CKC v p r J I) (d : CKR v p r' K J) : r = r' := by
  have n := Rg.n0 hR
  have n3 := Rg.n3 hR
  have j0 : J 236 0 = I 236 0 := h4 236 0 (by decide)
  have j3 : J 236 3 = I 236 3 := h4 236 3 (by decide)
  have e4 : ∀ j, J 236 j = I 236 j := fun j => h4 236 j (by decide)
  have c1 := c.1
  have d1 := d.1
  by_cases w : (0 ≤ v ∧ v < 4) ∧ 0 ≤ p ∧ p < I 1 1
  · have cw := c1.2 w
    have dw := d1.2 ⟨by omega, by omega, by omega⟩
    have g := (hg (Int.toNat v) (by omega)).2.1
    rw [show 90 + 3 * Int.toNat v = 1 + 89 + 3 * Int.toNat v from by omega, ← e4 (40 + 36 * Int.toNat v)] at g
    by_cases t : I (1 + 89 + 3 * Int.toNat v) 0 = 0
    · exact (cw.1 t).trans (dw.1 (by have := g.1 t; omega)).symm
    · have a := cw.2 t
      have b := dw.2 (g.2 t)
      have z := rn_e (v := Int.toNat v) (p := Int.toNat p) (by omega) (hP (Int.toNat p) (by omega)) (fun j hj => by have y := hl j hj; rwa [show 4 + 1 * j = 4 + j from by omega] at y) hg e4
      rw [z.1, e3, ← j3, chR_e (V := fun k => J 236 (1292 + k)) (fun k hk => (ew k (by omega)).trans (e4 _).symm)] at a
      exact a.trans b.symm
  · exact (c1.1 w).trans (d1.1 (by omega)).symm
