/-! the text that waits is the same on both sides, in what stands now and in what is kept. Own work. -/
def LTc (I : pI) : Prop := I 1 5 = I 236 2 ∧ ∀ j : Nat, (j : Int) < I 236 2 → clp (I 5 j) = clp (I 236 (1228 + j))
def LTk (I : pI) : Prop := I 0 2 = 0 ∨ (I 102 5 = I 237 2 ∧ ∀ j : Nat, (j : Int) < I 237 2 → clp (I 106 j) = clp (I 237 (1228 + j)))
theorem LTc_f {I J : pI} (hR : Rg I) (h : LTc I) (e5 : J 1 5 = I 1 5) (e : ∀ j, J 5 j = I 5 j) (g2 : J 236 2 = I 236 2) (g : ∀ j, 1228 ≤ j → j < 1292 → J 236 j = I 236 j) : LTc J := by
  have n := Rg.n2 hR
  refine ⟨by rw [e5, g2]; exact h.1, fun j hj => ?_⟩
  rw [g2] at hj
  rw [e j, g _ (by omega) (by omega)]
  exact h.2 j hj
theorem Rk2 {I : pI} (hR : Rg I) : 0 ≤ I 237 2 ∧ I 237 2 ≤ 64 := by
  have h := Rg.k hR 2 (by decide)
  unfold Pz at h
  rw [if_pos (by decide), if_neg (by decide), if_neg (by decide), if_pos rfl] at h
  exact h
theorem LTk_f {I J : pI} (h : LTk I) (e0 : J 0 2 = I 0 2) (e5 : J 102 5 = I 102 5) (e : ∀ j, J 106 j = I 106 j) (g : ∀ j, J 237 j = I 237 j) : LTk J := by
  rcases h with h | h
  · exact Or.inl (e0.trans h)
  · refine Or.inr ⟨by rw [e5, g]; exact h.1, fun j hj => ?_⟩
    rw [g 2] at hj
    rw [e j, g]
    exact h.2 j hj
theorem LTk_i {I J : pI} (hR : Rg I) (h : LTc I) (e5 : J 102 5 = I 1 5) (e : ∀ j, j < 64 → J 106 j = I 5 j) (g : ∀ j, j < 1340 → J 237 j = I 236 j) : LTk J := by
  have n := Rg.n2 hR
  refine Or.inr ⟨by rw [e5, g 2 (by decide)]; exact h.1, fun j hj => ?_⟩
  rw [g 2 (by decide)] at hj
  rw [e j (by omega), g _ (by omega)]
  exact h.2 j hj
theorem LTc_r {I J : pI} (hR : Rg I) (h : LTk I) (hi : ¬ I 0 2 = 0) (e5 : J 1 5 = I 102 5) (e : ∀ j, j < 64 → J 5 j = I 106 j) (g : ∀ j, j < 1340 → J 236 j = I 237 j) : LTc J := by
  have n := Rk2 hR
  have h := h.resolve_left hi
  refine ⟨by rw [e5, g 2 (by decide)]; exact h.1, fun j hj => ?_⟩
  rw [g 2 (by decide)] at hj
  rw [e j (by omega), g _ (by omega)]
  exact h.2 j hj
theorem LTc_fd {I J K : pI} {v0 v1 : Int} (hR : Rg I) (h : LTc I) (h4 : ∀ k j, 235 ≤ k → J k j = I k j) (h5 : ∀ k j, k < 235 → K k j = J k j)
    (c : (¬ ((1 ≤ v1 ∧ v1 ≤ 8) ∧ I 1 5 ≤ 64 - v1) → J 1 5 = I 1 5 ∧ ∀ j : Nat, J 5 j = I 5 j) ∧ (((1 ≤ v1 ∧ v1 ≤ 8) ∧ I 1 5 ≤ 64 - v1) → J 1 5 = I 1 5 + v1 ∧ (∀ j : Nat, (j : Int) < I 1 5 → J 5 j = I 5 j) ∧ ∀ j : Nat, (j : Int) < v1 → J 5 (Int.toNat (I 1 5) + j) = wb (wb (wr (srL v0 (8 * (j : Int)))))))
    (d : (¬ ((1 ≤ v1 ∧ v1 ≤ 8) ∧ J 236 2 ≤ 64 - v1) → K 236 2 = J 236 2 ∧ ∀ j : Nat, K 236 (1228 + j) = J 236 (1228 + j)) ∧ (((1 ≤ v1 ∧ v1 ≤ 8) ∧ J 236 2 ≤ 64 - v1) → K 236 2 = J 236 2 + v1 ∧ (∀ j : Nat, (j : Int) < J 236 2 → K 236 (1228 + j) = J 236 (1228 + j)) ∧ ∀ j : Nat, (j : Int) < v1 → K 236 (1228 + (Int.toNat (J 236 2) + j)) = wr (bL (srL v0 (8 * (j : Int))) 255))) : LTc K := by
  have n := Rg.n2 hR
  have j2 : J 236 2 = I 236 2 := h4 236 2 (by decide)
  have i5 := h.1
  have k5 : K 1 5 = J 1 5 := h5 1 5 (by decide)
  by_cases w : (1 ≤ v1 ∧ v1 ≤ 8) ∧ I 1 5 ≤ 64 - v1
  · obtain ⟨c1, c2, c3⟩ := c.2 w
    obtain ⟨d1, d2, d3⟩ := d.2 (by omega)
    refine ⟨by omega, fun j hj => ?_⟩
    rw [h5 5 j (by decide)]
    by_cases o : (j : Int) < I 1 5
    · rw [c2 j o, d2 j (by omega), h4 236 _ (by decide)]
      exact h.2 j (by omega)
    · have q := c3 (j - Int.toNat (I 1 5)) (by omega)
      have p := d3 (j - Int.toNat (J 236 2)) (by omega)
      rw [show Int.toNat (I 1 5) + (j - Int.toNat (I 1 5)) = j from by omega] at q
      rw [show Int.toNat (J 236 2) + (j - Int.toNat (J 236 2)) = j from by omega, show j - Int.toNat (J 236 2) = j - Int.toNat (I 1 5) from by omega] at p
      rw [q, p]
      exact clp_b
  · obtain ⟨c1, c2⟩ := c.1 w
    obtain ⟨d1, d2⟩ := d.1 (by omega)
    refine ⟨by omega, fun j hj => ?_⟩
    rw [h5 5 j (by decide), c2 j, d2 j, h4 236 _ (by decide)]
    exact h.2 j (by omega)
theorem LTc_0 {K : pI} (a : K 1 5 = 0) (b : K 236 2 = 0) : LTc K := ⟨by omega, fun j hj => absurd hj (by omega)⟩
/-- the text of both sides -/
def txc (I : pI) (i : Int) : Int := if 0 ≤ i ∧ i < I 1 5 then clp (I 5 i.toNat) else 0
theorem TXTc {I : pI} (hR : Rg I) (h : LTc I) : TXT (txc I) (I 1 5) (I 5) := by
  have n := Rg.n2 hR
  have e := h.1
  exact ⟨by omega, fun i => rfl⟩
theorem TXTr {I J : pI} (hR : Rg I) (h : LTc I) (h4 : ∀ k j, 235 ≤ k → J k j = I k j) : TXT (txc I) (I 1 5) (fun j => J 236 (1228 + j)) := by
  have n := Rg.n2 hR
  have e := h.1
  refine ⟨by omega, fun i => ?_⟩
  unfold txc
  split
  · show _ = clp (J 236 (1228 + i.toNat))
    rw [h4 236 _ (by decide)]
    exact h.2 _ (by omega)
  · rfl
