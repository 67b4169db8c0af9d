/-! a piece's readings are the same on both sides; how the calls keep them so. Own work. -/
def REQ (I : pI) (a R b : Nat) : Prop := I (a + 2) 2 = I R (b + 4) ∧ (∀ j : Nat, (j : Int) < I (a + 2) 2 → I (a + 3) j = I R (b + 17 + 2 * j) ∧ I (a + 4) j = I R (b + 18 + 2 * j)) ∧ (0 ≤ I (a + 2) 2 ∧ I (a + 2) 2 ≤ 24) ∧ ∀ j : Nat, (j : Int) < I (a + 2) 2 → (0 ≤ I (a + 3) j ∧ I (a + 3) j ≤ 5100000) ∧ (-200000 ≤ I (a + 4) j ∧ I (a + 4) j ≤ 200000)
theorem REQ_t {I J : pI} {a a' R R' b : Nat} (h : REQ I a R b) (hs : J (a' + 2) 2 = I (a + 2) 2) (h3 : ∀ j, j < 24 → J (a' + 3) j = I (a + 3) j) (h4 : ∀ j, j < 24 → J (a' + 4) j = I (a + 4) j) (hf : ∀ f, f < 66 → (f = 4 ∨ 17 ≤ f) → J R' (b + f) = I R (b + f)) : REQ J a' R' b := by
  obtain ⟨e, f, g, w⟩ := h
  refine ⟨hs.trans (e.trans (hf 4 (by decide) (by decide)).symm), fun j hl => ?_, by rw [hs]; exact g, fun j hl => ?_⟩
  · rw [hs] at hl
    have x := f j hl
    refine ⟨(h3 j (by omega)).trans (x.1.trans ?_), (h4 j (by omega)).trans (x.2.trans ?_)⟩
    · rw [show b + 17 + 2 * j = b + (17 + 2 * j) from by omega]; exact (hf _ (by omega) (by omega)).symm
    · rw [show b + 18 + 2 * j = b + (18 + 2 * j) from by omega]; exact (hf _ (by omega) (by omega)).symm
  · rw [hs] at hl
    rw [h3 j (by omega), h4 j (by omega)]
    exact w j hl
theorem fAns_b {k s c x : Int} {a : Nat → Int} (hs : 1 ≤ s ∧ s ≤ 99) (hc : 2 ≤ c ∧ c ≤ 12) (ha : ∀ j : Nat, (j : Int) < c → 0 ≤ a j ∧ a j ≤ 9999) : -200000 ≤ fAns k s c a x ∧ fAns k s c a x ≤ 200000 := by
  unfold fAns
  by_cases q : x < 0 ∨ 10 * (c - 1) < x
  · rw [if_pos q]; omega
  · rw [if_neg q]
    have b := fA_b (x := x) hc (by omega) ha
    have h := prod_b b (b := s) (by omega)
    have t := td_b (x := fA c a x * s) (c := 10) (M := 200000) (by decide) (by decide) (by omega) (by omega)
    have u := td_b (x := Int.tdiv (fA c a x * s) 10) (c := 2) (M := 200000) (by decide) (by decide) (by omega) (by omega)
    unfold fV2
    (repeat' split) <;> omega
def LRc (I : pI) : Prop := ∀ p : Nat, (p : Int) < I 236 0 → REQ I (20 + 5 * p) 236 (304 + 66 * p)
def LRk (I : pI) : Prop := I 0 2 = 0 ∨ ∀ p : Nat, (p : Int) < I 237 0 → REQ I (121 + 5 * p) 237 (304 + 66 * p)
theorem LRc_f {I J : pI} (hR : Rg I) (h : LRc I) (e : J 236 0 = I 236 0) (h1 : ∀ k j, 20 ≤ k → k < 90 → 2 ≤ k % 5 → ¬ (k % 5 = 2 ∧ 3 ≤ j) → J k j = I k j) (h2 : ∀ j, 304 ≤ j → j < 1228 → ((j - 304) % 66 = 4 ∨ 17 ≤ (j - 304) % 66) → J 236 j = I 236 j) : LRc J := fun p hp => by
  have n := Rg.n0 hR
  rw [e] at hp
  exact REQ_t (h p hp) (h1 _ _ (by first | decide | omega) (by omega) (by omega) (by omega)) (fun j _ => h1 _ _ (by first | decide | omega) (by omega) (by omega) (by omega)) (fun j _ => h1 _ _ (by first | decide | omega) (by omega) (by omega) (by omega)) (fun f h3 h4 => h2 _ (by omega) (by omega) (by omega))
theorem LRk_f {I J : pI} (hR : Rg I) (h : LRk I) (e0 : J 0 2 = I 0 2) (h1 : ∀ k j, 121 ≤ k → k < 191 → J k j = I k j) (h2 : ∀ j, J 237 j = I 237 j) : LRk J := by
  have n := Rk0 hR
  rcases h with h | h
  · exact Or.inl (e0.trans h)
  · refine Or.inr (fun p hp => ?_)
    rw [h2 0] at hp
    exact REQ_t (h p hp) (h1 _ _ (by first | decide | omega) (by omega)) (fun j _ => h1 _ _ (by first | decide | omega) (by omega)) (fun j _ => h1 _ _ (by first | decide | omega) (by omega)) (fun f _ _ => h2 _)
theorem LRk_i {I J : pI} (hR : Rg I) (h : LRc I) (h1 : ∀ p : Nat, p < 14 → PCP (102 + 19 + 5 * p) (1 + 19 + 5 * p) J I) (h2 : ∀ j, j < 1340 → J 237 j = I 236 j) : LRk J := Or.inr (fun p hp => by
  have n := Rg.n0 hR
  rw [h2 0 (by decide)] at hp
  obtain ⟨⟨_, _, _, _, e⟩, _, f3, f4⟩ := h1 p (by omega)
  rw [show 102 + 19 + 5 * p = 121 + 5 * p from by omega, show 1 + 19 + 5 * p = 20 + 5 * p from by omega] at e f3 f4
  exact REQ_t (h p hp) e f3 f4 (fun q _ _ => h2 _ (by omega)))
theorem LRc_r {I J : pI} (hR : Rg I) (h : LRk I) (hi : ¬ I 0 2 = 0) (h1 : ∀ p : Nat, p < 14 → PCP (1 + 19 + 5 * p) (102 + 19 + 5 * p) J I) (h2 : ∀ j, j < 1340 → J 236 j = I 237 j) : LRc J := fun p hp => by
  have n := Rk0 hR
  rw [h2 0 (by decide)] at hp
  obtain ⟨⟨_, _, _, _, e⟩, _, f3, f4⟩ := h1 p (by omega)
  rw [show 102 + 19 + 5 * p = 121 + 5 * p from by omega, show 1 + 19 + 5 * p = 20 + 5 * p from by omega] at e f3 f4
  exact REQ_t (h.resolve_left hi p hp) e f3 f4 (fun q _ _ => h2 _ (by omega))
/-- one piece's readings made anew -/
theorem LRc_1 {I K : pI} {p : Nat} {n : Int} {A B : Nat → Int} (hR : Rg I) (h : LRc I) (hp : (p : Int) < I 236 0) (e : K 236 0 = I 236 0) (s1 : K (20 + 5 * p + 2) 2 = n) (s2 : K 236 (304 + 66 * p + 4) = n) (hn : 0 ≤ n ∧ n ≤ 24) (rg : ∀ i : Nat, (i : Int) < n → (0 ≤ A i ∧ A i ≤ 5100000) ∧ (-200000 ≤ B i ∧ B i ≤ 200000))
    (c1 : ∀ i : Nat, (i : Int) < n → K (20 + 5 * p + 3) i = A i ∧ K (20 + 5 * p + 4) i = B i) (d1 : ∀ i : Nat, (i : Int) < n → K 236 (304 + 66 * p + 17 + 2 * i) = A i ∧ K 236 (304 + 66 * p + 18 + 2 * i) = B i)
    (f1 : ∀ k j, 20 ≤ k → k < 90 → ¬ (20 + 5 * p + 2 ≤ k ∧ k ≤ 20 + 5 * p + 4) → K k j = I k j) (f2 : ∀ j, 304 ≤ j → ¬ (j = 304 + 66 * p + 4) → ¬ (304 + 66 * p + 17 ≤ j ∧ j < 304 + 66 * p + 66) → K 236 j = I 236 j) : LRc K := fun q hq => by
  have n0 := Rg.n0 hR
  rw [e] at hq
  by_cases o : q = p
  · subst o
    refine ⟨s1.trans s2.symm, fun j hj => ?_, by rw [s1]; exact hn, fun j hj => ?_⟩
    · rw [s1] at hj
      exact ⟨(c1 j hj).1.trans (d1 j hj).1.symm, (c1 j hj).2.trans (d1 j hj).2.symm⟩
    · rw [s1] at hj
      rw [(c1 j hj).1, (c1 j hj).2]
      exact rg j hj
  · exact REQ_t (h q hq) (f1 _ _ (by omega) (by omega) (by omega)) (fun j _ => f1 _ _ (by omega) (by omega) (by omega)) (fun j _ => f1 _ _ (by omega) (by omega) (by omega)) (fun f h3 h4 => f2 _ (by omega) (by omega) (by omega))
theorem LRc_p {I J K : pI} {r1 r2 v0 v1 v2 v3 v4 : Int} (hR : Rg I) (h : LRc I) (eO : I 1 1 = I 236 0) (eN : J 1 1 = K 236 0)
    (c : (PT r1 (J 1 1) (I 1 1) (VA v0 v1 v2 v3 v4) (I (227 + 2 * Int.toNat v3) 0) (GD (I (227 + 2 * Int.toNat v3 + 1)) (I (227 + 2 * Int.toNat v3) 1) v4 0 9999)) ∧ (∀ k j, 20 ≤ k → k < 20 + 5 * Int.toNat (I 1 1) → J k j = I k j) ∧
      (J 1 1 = I 1 1 + 1 → J (20 + 5 * Int.toNat (I 1 1)) 0 = v0 ∧ J (20 + 5 * Int.toNat (I 1 1)) 1 = v1 ∧ J (20 + 5 * Int.toNat (I 1 1)) 2 = v2 ∧ J (20 + 5 * Int.toNat (I 1 1)) 4 = v4 ∧ J (20 + 5 * Int.toNat (I 1 1) + 2) 2 = 0 ∧ ∀ j : Nat, (j : Int) < v4 → J (20 + 5 * Int.toNat (I 1 1) + 1) j = I (227 + 2 * Int.toNat v3 + 1) j))
    (d : (PT r2 (K 236 0) (J 236 0) (VA v0 v1 v2 v3 v4) (J 250 (Int.toNat v3)) (GD (fun j => J 252 (24 * Int.toNat v3 + j)) (J 251 (Int.toNat v3)) v4 0 9999)) ∧ (∀ j, j < 304 + 66 * Int.toNat (J 236 0) → ¬ j = 0 → K 236 j = J 236 j) ∧
      (K 236 0 = J 236 0 + 1 → K 236 (304 + 66 * Int.toNat (J 236 0)) = v0 ∧ K 236 (304 + 66 * Int.toNat (J 236 0) + 1) = v1 ∧ K 236 (304 + 66 * Int.toNat (J 236 0) + 2) = v2 ∧ K 236 (304 + 66 * Int.toNat (J 236 0) + 3) = v4 ∧ K 236 (304 + 66 * Int.toNat (J 236 0) + 4) = 0 ∧ ∀ j : Nat, (j : Int) < v4 → K 236 (304 + 66 * Int.toNat (J 236 0) + 5 + j) = J 252 (24 * Int.toNat v3 + j)))
    (h4 : ∀ k j, 235 ≤ k → J k j = I k j) (h5 : ∀ k j, k < 235 → K k j = J k j) : LRc K := fun p hp => by
  have n := Rg.n0 hR
  have j0 : J 236 0 = I 236 0 := h4 236 0 (by decide)
  rw [j0] at d
  have hn := PT_n d.1 n
  by_cases o : (p : Int) < I 236 0
  · have a1 := c.2.1
    rw [eO] at a1
    exact REQ_t (h p o) ((h5 _ _ (by first | decide | omega)).trans (a1 _ _ (by omega) (by omega))) (fun j _ => (h5 _ _ (by first | decide | omega)).trans (a1 _ _ (by omega) (by omega))) (fun j _ => (h5 _ _ (by first | decide | omega)).trans (a1 _ _ (by omega) (by omega)))
      (fun f _ _ => (d.2.1 _ (by omega) (by omega)).trans (h4 _ _ (by decide)))
  · have s1 : K 236 0 = I 236 0 + 1 := by omega
    have hp2 : p = Int.toNat (I 236 0) := by omega
    obtain ⟨_, _, _, _, c5, _⟩ := c.2.2 (by omega)
    obtain ⟨_, _, _, _, d5, _⟩ := d.2.2 s1
    rw [eO, ← hp2] at c5
    rw [← hp2] at d5
    have k5 : K (20 + 5 * p + 2) 2 = 0 := (h5 _ _ (by first | decide | omega)).trans c5
    exact ⟨k5.trans d5.symm, fun j hj => absurd hj (by rw [k5]; omega), by rw [k5]; omega, fun j hj => absurd hj (by rw [k5]; omega)⟩
theorem LRc_0 : LRc I00 := fun p hp => absurd hp (by rw [show I00 236 0 = 0 by decide +kernel]; omega)
theorem LRc_run {I J K : pI} {v p r r' : Int} (hR : Rg I) (hL : LRc I) (hP : LPc I) (hl : ∀ j, j < 5 → I 4 (j + 0) = I 236 (4 + 1 * j)) (hg : LGc I) (eO : I 1 1 = I 236 0) (h4 : ∀ k j, 235 ≤ k → J k j = I k j) (h5 : ∀ k j, k < 235 → K k j = J k j) (c : RUC v p r J I) (d : RUR v p r' K J) : LRc K := by
  have n := Rg.n0 hR
  have j0 : J 236 0 = I 236 0 := h4 236 0 (by decide)
  have e4 : ∀ j, J 236 j = I 236 j := fun j => h4 236 j (by decide)
  by_cases w : (0 ≤ v ∧ v < 4) ∧ 0 ≤ p ∧ p < I 1 1
  · have cw := c.2 w
    have dw := d.2 ⟨by omega, by omega, by omega⟩
    have g := (hg (Int.toNat v) (by omega)).2.1
    rw [show 90 + 3 * Int.toNat v = 1 + 89 + 3 * Int.toNat v from by omega, ← e4 (40 + 36 * Int.toNat v)] at g
    by_cases t : I (1 + 89 + 3 * Int.toNat v) 0 = 0
    · have a := cw.1 t
      have b := dw.1 (by have := g.1 t; omega)
      exact LRc_f hR hL ((b.2 0).trans j0) (fun k j h1 h2 _ _ => (h5 k j (by omega)).trans (a.2.1 k j h1 h2)) (fun j _ _ _ => (b.2 j).trans (e4 j))
    · have a := cw.2 t
      have b := dw.2 (g.2 t)
      have z := rn_e (v := Int.toNat v) (p := Int.toNat p) (by omega) (hP (Int.toNat p) (by omega)) (fun j hj => by have y := hl j hj; rwa [show 4 + 1 * j = 4 + j from by omega] at y) hg e4
      rw [z.1, z.2] at a
      have hz : WS (rnF (ldR J (Int.toNat p)) (pmR J (Int.toNat p)) (fun k => J 236 (42 + 36 * Int.toNat v + 2 * k)) (fun k => J 236 (43 + 36 * Int.toNat v + 2 * k)) (Int.toNat (J 236 (41 + 36 * Int.toNat v))) (Int.toNat (J 236 (40 + 36 * Int.toNat v)))) := WS_r
      obtain ⟨_, a2, a3, _, a5⟩ := a
      obtain ⟨_, b2, b3, _, b5⟩ := b
      rw [show 1 + 19 + 5 * Int.toNat p = 20 + 5 * Int.toNat p from by omega] at a2 a3 a5
      have rr : RRG I (Int.toNat p) := LPc_m hP (Int.toNat p) (by omega)
      have hg2 := LGc_m hg e4 (Int.toNat v) (by omega)
      have g1 := hg2.1
      have rg := RSR_rn (ld := ldR J (Int.toNat p)) (P := pmR J (Int.toNat p)) (a := fun k => J 236 (42 + 36 * Int.toNat v + 2 * k)) (m := fun k => J 236 (43 + 36 * Int.toNat v + 2 * k)) (f := Int.toNat (J 236 (41 + 36 * Int.toNat v))) (c := Int.toNat (J 236 (40 + 36 * Int.toNat v)))
        (fun x => by unfold ldR; simp only [e4]; exact fAns_b rr.1 rr.2.1 rr.2.2) (fun j hj => (hg2.2 j (by omega)).2) (by omega) (by omega)
      exact LRc_1 (p := Int.toNat p) hR hL (by omega) ((b5 0 (by omega) (by omega) (by omega)).trans j0) ((h5 _ _ (by first | decide | omega)).trans a2) b2 hz.2.2.2 rg (fun i hi => ⟨(h5 _ _ (by first | decide | omega)).trans (a3 i hi).1, (h5 _ _ (by first | decide | omega)).trans (a3 i hi).2⟩) b3
        (fun k j h1 h2 h3 => (h5 k j (by omega)).trans (a5 k j h1 h2 h3)) (fun j h1 h3 h6 => (b5 j (by omega) h3 h6).trans (e4 j))
  · have cw := c.1 w
    have dw := d.1 (by omega)
    exact LRc_f hR hL ((dw.2 0).trans j0) (fun k j h1 h2 _ _ => (h5 k j (by omega)).trans (cw.2.1 k j h1 h2)) (fun j _ _ _ => (dw.2 j).trans (e4 j))
