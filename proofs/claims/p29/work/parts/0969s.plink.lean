/-! the programs are the same on both sides, in what stands now and in what is kept. Own work. -/
def PGQ (I : pI) (g R b : Nat) : Prop := (I g 3 = I R (b + 1) ∧ I g 4 = I R b) ∧ ((I g 0 = 0 → I R b = 0) ∧ (¬ I g 0 = 0 → 0 < I R b)) ∧ (0 ≤ I R (b + 1) ∧ I R (b + 1) ≤ I R b ∧ I R b ≤ 17) ∧
  ∀ k : Nat, (k : Int) < I R b → (I (g + 1) k = I R (b + 2 + 2 * k) ∧ I (g + 2) k = I R (b + 3 + 2 * k)) ∧ (0 ≤ I R (b + 2 + 2 * k) ∧ I R (b + 2 + 2 * k) ≤ 5) ∧ I R (b + 3 + 2 * k) ≤ 300000
theorem PGQ_t {I J : pI} {g g' R R' b : Nat} (h : PGQ I g R b) (h0 : J g' 0 = I g 0) (h3 : J g' 3 = I g 3) (h4 : J g' 4 = I g 4) (ha : ∀ j, j < 32 → J (g' + 1) j = I (g + 1) j) (hm : ∀ j, j < 32 → J (g' + 2) j = I (g + 2) j) (hf : ∀ f, f < 36 → J R' (b + f) = I R (b + f)) : PGQ J g' R' b := by
  obtain ⟨⟨e3, e4⟩, e0, er, ek⟩ := h
  have f0 : J R' b = I R b := hf 0 (by decide)
  have f1 : J R' (b + 1) = I R (b + 1) := hf 1 (by decide)
  refine ⟨⟨h3.trans (e3.trans f1.symm), h4.trans (e4.trans f0.symm)⟩, ?_, ?_, fun k hk => ?_⟩
  · rw [h0, f0]; exact e0
  · rw [f1, f0]; exact er
  · rw [f0] at hk
    have z := ek k hk
    have y2 : J R' (b + 2 + 2 * k) = I R (b + 2 + 2 * k) := by rw [show b + 2 + 2 * k = b + (2 + 2 * k) from by omega]; exact hf _ (by omega)
    have y3 : J R' (b + 3 + 2 * k) = I R (b + 3 + 2 * k) := by rw [show b + 3 + 2 * k = b + (3 + 2 * k) from by omega]; exact hf _ (by omega)
    rw [ha k (by omega), hm k (by omega), y2, y3]
    exact z
def LGc (I : pI) : Prop := ∀ v : Nat, v < 4 → PGQ I (90 + 3 * v) 236 (40 + 36 * v)
def LGk (I : pI) : Prop := I 0 2 = 0 ∨ ∀ v : Nat, v < 4 → PGQ I (191 + 3 * v) 237 (40 + 36 * v)
theorem LGc_f {I J : pI} (h : LGc I) (h1 : ∀ k j, 90 ≤ k → k < 102 → J k j = I k j) (h2 : ∀ j, 40 ≤ j → j < 184 → J 236 j = I 236 j) : LGc J := fun v hv =>
  PGQ_t (h v hv) (h1 _ _ (by first | decide | omega) (by omega)) (h1 _ _ (by first | decide | omega) (by omega)) (h1 _ _ (by first | decide | omega) (by omega)) (fun j _ => h1 _ _ (by first | decide | omega) (by omega)) (fun j _ => h1 _ _ (by first | decide | omega) (by omega)) (fun f hf => h2 _ (by omega) (by omega))
theorem LGk_f {I J : pI} (h : LGk I) (e0 : J 0 2 = I 0 2) (h1 : ∀ k j, 191 ≤ k → k < 203 → J k j = I k j) (h2 : ∀ j, J 237 j = I 237 j) : LGk J := by
  rcases h with h | h
  · exact Or.inl (e0.trans h)
  · exact Or.inr (fun v hv => PGQ_t (h v hv) (h1 _ _ (by first | decide | omega) (by omega)) (h1 _ _ (by first | decide | omega) (by omega)) (h1 _ _ (by first | decide | omega) (by omega)) (fun j _ => h1 _ _ (by first | decide | omega) (by omega)) (fun j _ => h1 _ _ (by first | decide | omega) (by omega)) (fun f _ => h2 _))
theorem LGk_i {I J : pI} (h : LGc I) (h1 : ∀ v : Nat, v < 4 → GCP (191 + 3 * v) (90 + 3 * v) J I) (h2 : ∀ j, j < 1340 → J 237 j = I 236 j) : LGk J := Or.inr (fun v hv => by
  obtain ⟨⟨e0, e3, e4⟩, a, m⟩ := h1 v hv
  exact PGQ_t (h v hv) e0 e3 e4 a m (fun f hf => h2 _ (by omega)))
theorem LGc_r {I J : pI} (h : LGk I) (hi : ¬ I 0 2 = 0) (h1 : ∀ v : Nat, v < 4 → GCP (90 + 3 * v) (191 + 3 * v) J I) (h2 : ∀ j, j < 1340 → J 236 j = I 237 j) : LGc J := fun v hv => by
  obtain ⟨⟨e0, e3, e4⟩, a, m⟩ := h1 v hv
  exact PGQ_t (h.resolve_left hi v hv) e0 e3 e4 a m (fun f hf => h2 _ (by omega))
theorem twP_l {t : Int → Int} {n : Int} : ∀ i : Nat, ((twP t n i).2.2 = 0 ∨ (twP t n i).2.2 = 1) ∧ ((cP t n i).2.2 = 0 ∨ (cP t n i).2.2 = 1) := by
  have ck : ∀ i, ((twP t n i).2.2 = 0 ∨ (twP t n i).2.2 = 1) → ((cP t n i).2.2 = 0 ∨ (cP t n i).2.2 = 1) := fun i h => by
    by_cases e : 0 < i ∧ (twP t n i).2.2 = 0 ∧ mkW0 t (twP t n i).1 (twP t n i).2.1
    · have z : cP t n i = (na t n (twP t n i).2.1, nb t n (twP t n i).2.1, 1) := by
        unfold cP ckP
        exact if_pos e
      rw [z]; exact Or.inr rfl
    · have z : cP t n i = twP t n i := by
        unfold cP ckP
        exact if_neg e
      rw [z]; exact h
  intro i
  induction i with
  | zero => exact ⟨Or.inl rfl, ck 0 (Or.inl rfl)⟩
  | succ i ih =>
    have z : ((twP t n (i + 1)).2.2 = 0 ∨ (twP t n (i + 1)).2.2 = 1) := ih.2
    exact ⟨z, ck _ z⟩
theorem fsP_b {t : Int → Int} {n : Int} : ∀ i : Nat, 0 ≤ fsP t n i ∧ fsP t n i ≤ i := by
  intro i
  induction i with
  | zero => exact ⟨Int.le_refl 0, Int.le_refl 0⟩
  | succ i ih =>
    have l := (twP_l (t := t) (n := n) i).2
    show 0 ≤ fsP t n i + (1 - (cP t n i).2.2) ∧ fsP t n i + (1 - (cP t n i).2.2) ≤ ((i + 1 : Nat) : Int)
    omega
theorem aF_b {t : Int → Int} {a b : Int} : aF t a b ≤ 5 := by
  unfold aF
  (repeat' split) <;> omega
theorem RESP_a {t : Int → Int} {n : Int} {m : Nat} (h : RESP t n (-1) m) : ∀ k : Nat, k < m + 1 → 0 ≤ actP t n k ∧ actP t n k ≤ 5 := fun k hk => by
  have o : okP t n k := by
    by_cases e : k < m
    · exact (h.1 k e).1
    · obtain rfl : k = m := by omega
      rcases h.2 with q | q
      · exact absurd q.2.1 (by decide)
      · exact q.1
  exact ⟨o.1, aF_b⟩
theorem LGc_p {tt : Int → Int} {nn v0 r r' : Int} {I J K : pI} (hR : Rg K) (h : LGc I) (h4 : ∀ k j, 235 ≤ k → J k j = I k j) (h5 : ∀ k j, k < 235 → K k j = J k j) (c : PGC tt nn v0 r J I) (d : PGR tt nn v0 r' K J) : LGc K := by
  by_cases w : 0 ≤ v0 ∧ v0 ≤ 3
  · obtain ⟨_, x, m, c1, c2, c3, c4⟩ := c.2 ⟨w.1, by omega⟩
    obtain ⟨y, p, d1, d2, d3, d4⟩ := d.2 w
    obtain ⟨e1, e2⟩ := RESP_u c1 d1
    subst e1
    subst e2
    by_cases z : 0 ≤ x
    · exact LGc_f h (fun k j h1 h2 => (h5 k j (by omega)).trans ((c3 z).2 k j h1 h2)) (fun j h1 h2 => ((d3 z).2 j h1 h2).trans (h4 236 j (by decide)))
    · obtain rfl : x = -1 := by omega
      obtain ⟨_, cm, ⟨cg0, cg3, cg4⟩, ca, co⟩ := c4 rfl
      obtain ⟨_, dm, dg0, dg1, da, do_⟩ := d4 rfl
      have ra := RESP_a c1
      intro v hv
      by_cases e : v = Int.toNat v0
      · subst e
        have q : 1 + 89 + 3 * Int.toNat v0 = 90 + 3 * Int.toNat v0 := by omega
        rw [q] at cg0 cg3 cg4 ca
        have k0 := (h5 (90 + 3 * Int.toNat v0) 0 (by omega)).trans cg0
        have fb := fsP_b (t := tt) (n := nn) (m + 1)
        refine ⟨⟨(h5 _ _ (by first | decide | omega)).trans (cg3.trans dg1.symm), (h5 _ _ (by first | decide | omega)).trans (cg4.trans dg0.symm)⟩, ⟨fun z => absurd z (by omega), fun _ => by omega⟩, ⟨by omega, by omega, by omega⟩, fun k hk => ?_⟩
        have a := ca k (by omega)
        have b := da k (by omega)
        have u := ra k (by omega)
        have b1 : K 236 (40 + 36 * Int.toNat v0 + 2 + 2 * k) = actP tt nn k := by rw [show 40 + 36 * Int.toNat v0 + 2 + 2 * k = 40 + 36 * Int.toNat v0 + (2 + 2 * k) from by omega]; exact b.1
        have b2 : K 236 (40 + 36 * Int.toNat v0 + 3 + 2 * k) = amP tt nn k := by rw [show 40 + 36 * Int.toNat v0 + 3 + 2 * k = 40 + 36 * Int.toNat v0 + (3 + 2 * k) from by omega]; exact b.2
        have g := Pn_ga2 (p := 36 * Int.toNat v0 + 3 + 2 * k) (by omega) (by omega) (hR.n (40 + 36 * Int.toNat v0 + 3 + 2 * k) (by omega))
        refine ⟨⟨(h5 _ _ (by first | decide | omega)).trans (a.1.trans b1.symm), (h5 _ _ (by first | decide | omega)).trans (a.2.trans b2.symm)⟩, by omega, by omega⟩
      · refine PGQ_t (h v hv) ?_ ?_ ?_ (fun j _ => ?_) (fun j _ => ?_) (fun f hf => ?_)
        · exact (h5 _ _ (by first | decide | omega)).trans (co _ _ (by omega) (by omega) (by omega))
        · exact (h5 _ _ (by first | decide | omega)).trans (co _ _ (by omega) (by omega) (by omega))
        · exact (h5 _ _ (by first | decide | omega)).trans (co _ _ (by omega) (by omega) (by omega))
        · exact (h5 _ _ (by first | decide | omega)).trans (co _ _ (by omega) (by omega) (by omega))
        · exact (h5 _ _ (by first | decide | omega)).trans (co _ _ (by omega) (by omega) (by omega))
        · exact (do_ _ (by omega) (by omega) (by omega)).trans (h4 236 _ (by decide))
  · exact LGc_f h (fun k j h1 h2 => (h5 k j (by omega)).trans ((c.1 (by omega)).2.2 k j h1 h2)) (fun j h1 h2 => ((d.1 w).2 j h1 h2).trans (h4 236 j (by decide)))
