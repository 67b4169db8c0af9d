/-! a piece is the same on both sides; how the calls keep it so. Own work. -/
def PEQ (I : pI) (a R b : Nat) : Prop :=
  (I a 0 = I R b ∧ I a 1 = I R (b + 1) ∧ I a 2 = I R (b + 2) ∧ I a 4 = I R (b + 3)) ∧
  (∀ j : Nat, (j : Int) < I a 4 → I (a + 1) j = I R (b + 5 + j)) ∧
  ((0 ≤ I a 0 ∧ I a 0 ≤ 5) ∧ (0 ≤ I a 1 ∧ I a 1 ≤ 3) ∧ (1 ≤ I a 2 ∧ I a 2 ≤ 99) ∧ (2 ≤ I a 4 ∧ I a 4 ≤ 12)) ∧
  (∀ j : Nat, (j : Int) < I a 4 → 0 ≤ I (a + 1) j ∧ I (a + 1) j ≤ 9999)
theorem PEQ_t {I J : pI} {a a' R R' b : Nat} (h : PEQ I a R b) (h0 : J a' 0 = I a 0) (h1 : J a' 1 = I a 1) (h2 : J a' 2 = I a 2) (h4 : J a' 4 = I a 4) (hj : ∀ j, j < 12 → J (a' + 1) j = I (a + 1) j) (hf : ∀ f, f < 17 → ¬ f = 4 → J R' (b + f) = I R (b + f)) : PEQ J a' R' b := by
  obtain ⟨⟨e0, e1, e2, e4⟩, f, g, k⟩ := h
  have r0 : J R' b = I R b := hf 0 (by decide) (by decide)
  refine ⟨⟨h0.trans (e0.trans r0.symm), h1.trans (e1.trans (hf 1 (by decide) (by decide)).symm), h2.trans (e2.trans (hf 2 (by decide) (by decide)).symm), h4.trans (e4.trans (hf 3 (by decide) (by decide)).symm)⟩, fun j hl => ?_, ?_, fun j hl => ?_⟩
  · rw [h4] at hl
    rw [hj j (by omega), f j hl, show b + 5 + j = b + (5 + j) from by omega]
    exact (hf (5 + j) (by omega) (by omega)).symm
  · rw [h0, h1, h2, h4]; exact g
  · rw [h4] at hl
    rw [hj j (by omega)]; exact k j hl
def LPc (I : pI) : Prop := ∀ p : Nat, (p : Int) < I 236 0 → PEQ I (20 + 5 * p) 236 (304 + 66 * p)
def LPk (I : pI) : Prop := I 0 2 = 0 ∨ ∀ p : Nat, (p : Int) < I 237 0 → PEQ I (121 + 5 * p) 237 (304 + 66 * p)
theorem LPc_f {I J : pI} (hR : Rg I) (h : LPc I) (e : J 236 0 = I 236 0) (h1 : ∀ k j, 20 ≤ k → k < 90 → k % 5 ≤ 1 → J k j = I k j) (h2 : ∀ j, 304 ≤ j → j < 1228 → (j - 304) % 66 < 17 → ¬ (j - 304) % 66 = 4 → J 236 j = I 236 j) : LPc J := fun p hp => by
  have n := Rg.n0 hR
  rw [e] at hp
  exact PEQ_t (h p hp) (h1 _ _ (by first | decide | omega) (by omega) (by omega)) (h1 _ _ (by first | decide | omega) (by omega) (by omega)) (h1 _ _ (by first | decide | omega) (by omega) (by omega)) (h1 _ _ (by first | decide | omega) (by omega) (by omega)) (fun j _ => h1 _ _ (by first | decide | omega) (by omega) (by omega)) (fun f h3 h4 => h2 _ (by omega) (by omega) (by omega) (by omega))
theorem Rk0 {I : pI} (hR : Rg I) : 0 ≤ I 237 0 ∧ I 237 0 ≤ 14 := by
  have h := Rg.k hR 0 (by decide)
  unfold Pz at h
  rw [if_pos (by decide), if_pos rfl] at h
  exact h
theorem LPk_f {I J : pI} (hR : Rg I) (h : LPk I) (e0 : J 0 2 = I 0 2) (h1 : ∀ k j, 121 ≤ k → k < 191 → J k j = I k j) (h2 : ∀ j, J 237 j = I 237 j) : LPk J := by
  have n := Rk0 hR
  rcases h with h | h
  · exact Or.inl (e0.trans h)
  · refine Or.inr (fun p hp => ?_)
    rw [h2 0] at hp
    exact PEQ_t (h p hp) (h1 _ _ (by first | decide | omega) (by omega)) (h1 _ _ (by first | decide | omega) (by omega)) (h1 _ _ (by first | decide | omega) (by omega)) (h1 _ _ (by first | decide | omega) (by omega)) (fun j _ => h1 _ _ (by first | decide | omega) (by omega)) (fun f _ _ => h2 _)
theorem LPk_i {I J : pI} (hR : Rg I) (h : LPc I) (h1 : ∀ p : Nat, p < 14 → PCP (102 + 19 + 5 * p) (1 + 19 + 5 * p) J I) (h2 : ∀ j, j < 1340 → J 237 j = I 236 j) : LPk J := Or.inr (fun p hp => by
  have n := Rg.n0 hR
  rw [h2 0 (by decide)] at hp
  obtain ⟨⟨e0, e1, e2, e4, _⟩, f, _, _⟩ := h1 p (by omega)
  rw [show 102 + 19 + 5 * p = 121 + 5 * p from by omega, show 1 + 19 + 5 * p = 20 + 5 * p from by omega] at e0 e1 e2 e4 f
  exact PEQ_t (h p hp) e0 e1 e2 e4 f (fun q _ _ => h2 _ (by omega)))
theorem LPc_r {I J : pI} (hR : Rg I) (h : LPk I) (hi : ¬ I 0 2 = 0) (h1 : ∀ p : Nat, p < 14 → PCP (1 + 19 + 5 * p) (102 + 19 + 5 * p) J I) (h2 : ∀ j, j < 1340 → J 236 j = I 237 j) : LPc J := fun p hp => by
  have n := Rk0 hR
  rw [h2 0 (by decide)] at hp
  obtain ⟨⟨e0, e1, e2, e4, _⟩, f, _, _⟩ := h1 p (by omega)
  rw [show 102 + 19 + 5 * p = 121 + 5 * p from by omega, show 1 + 19 + 5 * p = 20 + 5 * p from by omega] at e0 e1 e2 e4 f
  exact PEQ_t (h.resolve_left hi p hp) e0 e1 e2 e4 f (fun q _ _ => h2 _ (by omega))
theorem PT_s {r N O b : Int} {va g : Prop} (h : PT r N O va b g) (e : N = O + 1) : va ∧ g := by
  by_cases v : va
  · by_cases c : b = 0
    · have := h.2.1 v c; omega
    · by_cases k : g
      · exact ⟨v, k⟩
      · have := (h.2.2 v c).1 k; omega
  · have := h.1 v; omega
theorem PT_n {r N O b : Int} {va g : Prop} (h : PT r N O va b g) (hO : 0 ≤ O ∧ O ≤ 14) : N = O ∨ N = O + 1 := by
  by_cases v : va
  · by_cases c : b = 0
    · have := h.2.1 v c; omega
    · by_cases k : g
      · by_cases f : O = 14
        · have := (h.2.2 v c).2.1 k f; omega
        · have := (h.2.2 v c).2.2 k (by omega); omega
      · have := (h.2.2 v c).1 k; omega
  · have := h.1 v; omega
theorem LPc_p {I J K : pI} {r1 r2 v0 v1 v2 v3 v4 : Int} (hR : Rg I) (hN : LN I) (h : LPc I) (eO : I 1 1 = I 236 0) (eN : J 1 1 = K 236 0)
    (c : (PT r1 (J 1 1) (I 1 1) (VA v0 v1 v2 v3 v4) (I (227 + 2 * Int.toNat v3) 0) (GD (I (227 + 2 * Int.toNat v3 + 1)) (I (227 + 2 * Int.toNat v3) 1) v4 0 9999)) ∧ (∀ k j, 20 ≤ k → k < 20 + 5 * Int.toNat (I 1 1) → J k j = I k j) ∧
      (J 1 1 = I 1 1 + 1 → J (20 + 5 * Int.toNat (I 1 1)) 0 = v0 ∧ J (20 + 5 * Int.toNat (I 1 1)) 1 = v1 ∧ J (20 + 5 * Int.toNat (I 1 1)) 2 = v2 ∧ J (20 + 5 * Int.toNat (I 1 1)) 4 = v4 ∧ J (20 + 5 * Int.toNat (I 1 1) + 2) 2 = 0 ∧ ∀ j : Nat, (j : Int) < v4 → J (20 + 5 * Int.toNat (I 1 1) + 1) j = I (227 + 2 * Int.toNat v3 + 1) j))
    (d : (PT r2 (K 236 0) (J 236 0) (VA v0 v1 v2 v3 v4) (J 250 (Int.toNat v3)) (GD (fun j => J 252 (24 * Int.toNat v3 + j)) (J 251 (Int.toNat v3)) v4 0 9999)) ∧ (∀ j, j < 304 + 66 * Int.toNat (J 236 0) → ¬ j = 0 → K 236 j = J 236 j) ∧
      (K 236 0 = J 236 0 + 1 → K 236 (304 + 66 * Int.toNat (J 236 0)) = v0 ∧ K 236 (304 + 66 * Int.toNat (J 236 0) + 1) = v1 ∧ K 236 (304 + 66 * Int.toNat (J 236 0) + 2) = v2 ∧ K 236 (304 + 66 * Int.toNat (J 236 0) + 3) = v4 ∧ K 236 (304 + 66 * Int.toNat (J 236 0) + 4) = 0 ∧ ∀ j : Nat, (j : Int) < v4 → K 236 (304 + 66 * Int.toNat (J 236 0) + 5 + j) = J 252 (24 * Int.toNat v3 + j)))
    (h4 : ∀ k j, 235 ≤ k → J k j = I k j) (h5 : ∀ k j, k < 235 → K k j = J k j) : LPc K := fun p hp => by
  have n := Rg.n0 hR
  have j0 : J 236 0 = I 236 0 := h4 236 0 (by decide)
  rw [j0] at d
  have hn := PT_n d.1 n
  by_cases o : (p : Int) < I 236 0
  · have a1 := c.2.1
    rw [eO] at a1
    exact PEQ_t (h p o) ((h5 _ _ (by first | decide | omega)).trans (a1 _ _ (by omega) (by omega))) ((h5 _ _ (by first | decide | omega)).trans (a1 _ _ (by omega) (by omega))) ((h5 _ _ (by first | decide | omega)).trans (a1 _ _ (by omega) (by omega))) ((h5 _ _ (by first | decide | omega)).trans (a1 _ _ (by omega) (by omega)))
      (fun j _ => (h5 _ _ (by first | decide | omega)).trans (a1 _ _ (by omega) (by omega))) (fun f _ _ => (d.2.1 _ (by omega) (by omega)).trans (h4 _ _ (by decide)))
  · have s1 : K 236 0 = I 236 0 + 1 := by omega
    have hp2 : p = Int.toNat (I 236 0) := by omega
    obtain ⟨c0, c1, c2, c4, _, c6⟩ := c.2.2 (by omega)
    obtain ⟨d0, d1, d2, d3, _, d6⟩ := d.2.2 s1
    obtain ⟨va, gd⟩ := PT_s c.1 (by omega)
    rw [eO, ← hp2] at c0 c1 c2 c4 c6
    rw [← hp2] at d0 d1 d2 d3 d6
    have k0 := (h5 (20 + 5 * p) 0 (by omega)).trans c0
    have k1 := (h5 (20 + 5 * p) 1 (by omega)).trans c1
    have k2 := (h5 (20 + 5 * p) 2 (by omega)).trans c2
    have k4 := (h5 (20 + 5 * p) 4 (by omega)).trans c4
    have v3b := va.2.2.2.1
    have v4b := va.2.2.2.2
    refine ⟨⟨k0.trans d0.symm, k1.trans d1.symm, k2.trans d2.symm, k4.trans d3.symm⟩, fun j hj => ?_, ?_, fun j hj => ?_⟩
    · rw [k4] at hj
      rw [h5 _ _ (by first | decide | omega), c6 j hj, d6 j hj, h4 252 _ (by decide), ← hN (Int.toNat v3) j (by omega) (by omega), show 228 + 2 * Int.toNat v3 = 227 + 2 * Int.toNat v3 + 1 from by omega]
    · rw [k0, k1, k2, k4]; exact ⟨va.1, va.2.1, va.2.2.1, va.2.2.2.2⟩
    · rw [k4] at hj
      rw [h5 _ _ (by first | decide | omega), c6 j hj]; exact gd.2 j hj
theorem LPc_0 : LPc I00 := fun p hp => absurd hp (by rw [show I00 236 0 = 0 by decide +kernel]; omega)
