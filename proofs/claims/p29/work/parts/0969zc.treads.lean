/-! trace keeps the readings the same on both sides. Own work. -/
def TRC (v0 v1 v2 r : Int) (J I : pI) : Prop := ((¬ ((0 ≤ v0 ∧ v0 < I 1 1) ∧ (0 ≤ v1 ∧ v1 ≤ 3) ∧ 0 ≤ v2 ∧ v2 ≤ 24) → r = -1000001 ∧ (∀ k j, 20 ≤ k → k < 90 → J k j = I k j)) ∧ (((0 ≤ v0 ∧ v0 < I 1 1) ∧ (0 ≤ v1 ∧ v1 ≤ 3) ∧ 0 ≤ v2 ∧ v2 ≤ 24) → (I (227 + 2 * Int.toNat v1) 0 = 0 → r = -1000002 ∧ (∀ k j, 20 ≤ k → k < 90 → J k j = I k j)) ∧ (¬ I (227 + 2 * Int.toNat v1) 0 = 0 → (¬ v2 % 2 = 0 → r = -1000003 ∧ (∀ k j, 20 ≤ k → k < 90 → J k j = I k j)) ∧ (v2 % 2 = 0 → (¬ GT (I ((227 + 2 * Int.toNat v1) + 1)) (I (227 + 2 * Int.toNat v1) 1) v2 → r = -1000001 ∧ (∀ k j, 20 ≤ k → k < 90 → J k j = I k j)) ∧ (GT (I ((227 + 2 * Int.toNat v1) + 1)) (I (227 + 2 * Int.toNat v1) 1) v2 → r = v2 / 2 ∧ J ((1 + 19 + 5 * Int.toNat v0) + 2) 2 = v2 / 2 ∧ (∀ i : Nat, 2 * (i : Int) < v2 → J (((1 + 19 + 5 * Int.toNat v0) + 2) + 1) i = I ((227 + 2 * Int.toNat v1) + 1) (2 * i) ∧ J (((1 + 19 + 5 * Int.toNat v0) + 2) + 2) i = I ((227 + 2 * Int.toNat v1) + 1) (2 * i + 1)) ∧ ∀ k j, 20 ≤ k → k < 90 → ¬ ((1 + 19 + 5 * Int.toNat v0) + 2 ≤ k ∧ k ≤ (1 + 19 + 5 * Int.toNat v0) + 4) → J k j = I k j)))))
def TRR (v0 v1 v2 r : Int) (K J : pI) : Prop := ((¬ ((0 ≤ v0 ∧ v0 < J 236 0) ∧ (0 ≤ v1 ∧ v1 ≤ 3) ∧ 0 ≤ v2 ∧ v2 ≤ 24) → r = -1000001 ∧ (∀ j, K 236 j = J 236 j)) ∧ (((0 ≤ v0 ∧ v0 < J 236 0) ∧ (0 ≤ v1 ∧ v1 ≤ 3) ∧ 0 ≤ v2 ∧ v2 ≤ 24) → (J 250 (Int.toNat v1) = 0 → r = -1000002 ∧ (∀ j, K 236 j = J 236 j)) ∧ (¬ J 250 (Int.toNat v1) = 0 → (¬ v2 % 2 = 0 → r = -1000003 ∧ (∀ j, K 236 j = J 236 j)) ∧ (v2 % 2 = 0 → (¬ GT (fun j => J 252 (24 * Int.toNat v1 + j)) (J 251 (Int.toNat v1)) v2 → r = -1000001 ∧ (∀ j, K 236 j = J 236 j)) ∧ (GT (fun j => J 252 (24 * Int.toNat v1 + j)) (J 251 (Int.toNat v1)) v2 → r = v2 / 2 ∧ K 236 (304 + 66 * (Int.toNat v0) + 4) = v2 / 2 ∧ (∀ j : Nat, 2 * (j : Int) < v2 → K 236 (304 + 66 * (Int.toNat v0) + 17 + 2 * j) = J 252 (24 * Int.toNat v1 + 2 * j) ∧ K 236 (304 + 66 * (Int.toNat v0) + 18 + 2 * j) = J 252 (24 * Int.toNat v1 + (2 * j + 1))) ∧ ∀ j : Nat, ¬ (j = 304 + 66 * (Int.toNat v0) + 4) → ¬ (304 + 66 * (Int.toNat v0) + 17 ≤ j ∧ j < 304 + 66 * (Int.toNat v0) + 66) → K 236 j = J 236 j)))))
theorem GT_n {f : Nat → Int} {l n : Int} (h : GT f l n) : ∀ j : Nat, 2 * (j : Int) < n → (0 ≤ f (2 * j) ∧ f (2 * j) ≤ 999) ∧ (-2 ≤ f (2 * j + 1) ∧ f (2 * j + 1) ≤ 99999) := by
  intro j
  induction j with
  | zero =>
    intro hj
    have z := h.2 0 hj
    have e : pvF f 0 = 0 := rfl
    exact ⟨⟨by have := z.1; omega, z.2.1⟩, z.2.2⟩
  | succ j ih =>
    intro hj
    have z := h.2 (j + 1) hj
    have y := ih (by omega)
    have e : pvF f (j + 1) = f (2 * j) := by
      unfold pvF
      rw [if_neg (by omega)]
      exact congrArg f (by omega)
    exact ⟨⟨by have := z.1; omega, z.2.1⟩, z.2.2⟩
theorem tr_v {I J K : pI} {a s n r r' : Int} (hR : Rg I) (hL : LRc I) (hH : LH I) (hN : LN I) (eO : I 1 1 = I 236 0) (h4 : ∀ k j, 235 ≤ k → J k j = I k j) (h5 : ∀ k j, k < 235 → K k j = J k j) (c : TRC a s n r J I) (d : TRR a s n r' K J) : r = r' ∧ LRc K := by
  have m := Rg.n0 hR
  have j0 : J 236 0 = I 236 0 := h4 236 0 (by decide)
  have e4 : ∀ j, J 236 j = I 236 j := fun j => h4 236 j (by decide)
  unfold TRR at d
  rw [j0, ← eO] at d
  have sm : ∀ {x : Int}, r = x ∧ (∀ k j, 20 ≤ k → k < 90 → J k j = I k j) → r' = x ∧ (∀ j, K 236 j = J 236 j) → r = r' ∧ LRc K := fun a b =>
    ⟨a.1.trans b.1.symm, LRc_f hR hL ((b.2 0).trans j0) (fun k j h1 h2 _ _ => (h5 k j (by omega)).trans (a.2 k j h1 h2)) (fun j _ _ _ => (b.2 j).trans (e4 j))⟩
  by_cases w : ((0 ≤ a ∧ a < I 1 1) ∧ (0 ≤ s ∧ s ≤ 3) ∧ 0 ≤ n ∧ n ≤ 24)
  · have e := hH (Int.toNat s) (by omega)
    have ef : ∀ j, j < 24 → I (227 + 2 * Int.toNat s + 1) j = J 252 (24 * Int.toNat s + j) := fun j hj => by
      rw [h4 252 _ (by decide), ← hN (Int.toNat s) j (by omega) hj, show 228 + 2 * Int.toNat s = 227 + 2 * Int.toNat s + 1 from by omega]
    have g : GT (I (227 + 2 * Int.toNat s + 1)) (I (227 + 2 * Int.toNat s) 1) n ↔ GT (fun j => J 252 (24 * Int.toNat s + j)) (J 251 (Int.toNat s)) n := by
      rw [h4 251 _ (by decide), ← e.2]
      exact GT_e w.2.2.2 ef
    have c1 := c.2 w
    have d1 := d.2 w
    rw [h4 250 _ (by decide), ← e.1] at d1
    by_cases b : I (227 + 2 * Int.toNat s) 0 = 0
    · exact sm (c1.1 b) (d1.1 b)
    · have c2 := c1.2 b
      have d2 := d1.2 b
      by_cases k : n % 2 = 0
      · have c3 := c2.2 k
        have d3 := d2.2 k
        by_cases t : GT (I (227 + 2 * Int.toNat s + 1)) (I (227 + 2 * Int.toNat s) 1) n
        · obtain ⟨a1, a2, a3, a5⟩ := c3.2 t
          obtain ⟨b1, b2, b3, b5⟩ := d3.2 (g.1 t)
          rw [show 1 + 19 + 5 * Int.toNat a = 20 + 5 * Int.toNat a from by omega] at a2 a3 a5
          refine ⟨a1.trans b1.symm, LRc_1 (p := Int.toNat a) hR hL (by omega) ((b5 0 (by omega) (by omega)).trans j0) ((h5 _ _ (by first | decide | omega)).trans a2) b2 (by omega) (A := fun i => J 252 (24 * Int.toNat s + 2 * i)) (B := fun i => J 252 (24 * Int.toNat s + (2 * i + 1))) (fun i hi => ?_) (fun i hi => ?_) (fun i hi => b3 i (by omega))
            (fun k j h1 h2 h3 => (h5 k j (by omega)).trans (a5 k j h1 h2 h3)) (fun j h1 h3 h6 => (b5 j h3 h6).trans (e4 j))⟩
          · have y : (0 ≤ J 252 (24 * Int.toNat s + 2 * i) ∧ J 252 (24 * Int.toNat s + 2 * i) ≤ 999) ∧ (-2 ≤ J 252 (24 * Int.toNat s + (2 * i + 1)) ∧ J 252 (24 * Int.toNat s + (2 * i + 1)) ≤ 99999) := GT_n (g.1 t) i (by omega)
            show (0 ≤ J 252 (24 * Int.toNat s + 2 * i) ∧ J 252 (24 * Int.toNat s + 2 * i) ≤ 5100000) ∧ (-200000 ≤ J 252 (24 * Int.toNat s + (2 * i + 1)) ∧ J 252 (24 * Int.toNat s + (2 * i + 1)) ≤ 200000)
            omega
          · have y := a3 i (by omega)
            exact ⟨(h5 _ _ (by first | decide | omega)).trans (y.1.trans (ef _ (by omega))), (h5 _ _ (by first | decide | omega)).trans (y.2.trans (ef _ (by omega)))⟩
        · exact sm (c3.1 t) (d3.1 (fun z => t (g.2 z)))
      · exact sm (c2.1 k) (d2.1 k)
  · exact sm (c.1 w) (d.1 w)
