/-! numbers put in by order, both sides'. Own work (scripts laid by wip/pm/gen34.py). -/
section OR11
variable {G : pG} {d : Nat} {F : pF} {I : pI} {Q : Option pV → pF → pI → Prop}
/-! numbers put in by order: pure. Own work. -/
def posF (V : Nat → Int) (v : Int) : Nat → Nat
  | 0 => 0
  | n + 1 => if v < V n then posF V v n else n + 1
theorem posF_y {V : Nat → Int} {v : Int} {n : Nat} (h : v < V n) : posF V v (n + 1) = posF V v n := if_pos h
theorem posF_n {V : Nat → Int} {v : Int} {n : Nat} (h : ¬ v < V n) : posF V v (n + 1) = n + 1 := if_neg h
theorem posF_b {V : Nat → Int} {v : Int} : ∀ n : Nat, posF V v n ≤ n := by
  intro n
  induction n with
  | zero => exact Nat.le_refl 0
  | succ n ih =>
    by_cases c : v < V n
    · rw [posF_y c]; omega
    · rw [posF_n c]; omega
def inF2 (V : Nat → Int) (q : Nat) (v : Int) (k : Nat) : Int := if k < q then V k else if k = q then v else V (k - 1)
theorem inF2_l {V : Nat → Int} {q k : Nat} {v : Int} (h : k < q) : inF2 V q v k = V k := if_pos h
theorem inF2_e {V : Nat → Int} {q k : Nat} {v : Int} (h : k = q) : inF2 V q v k = v := by unfold inF2; rw [if_neg (by omega), if_pos h]
theorem inF2_g {V : Nat → Int} {q k : Nat} {v : Int} (h : q < k) : inF2 V q v k = V (k - 1) := by unfold inF2; rw [if_neg (by omega), if_neg (by omega)]
def ORC (I : pI) (V P : Nat → Int) (n : Nat) : Prop := I 223 2 = (n : Int) ∧ n ≤ 14 ∧ ∀ k, k < n → I 224 k = V k ∧ I 225 k = P k
def ORM (I : pI) (V P : Nat → Int) (n : Nat) : Prop := I 235 27 = (n : Int) ∧ n ≤ 14 ∧ ∀ k, k < n → I 245 k = V k ∧ I 246 k = P k
theorem ORC_f {I J : pI} {V P : Nat → Int} {n : Nat} (h : ORC I V P n) (e : ∀ k j, 223 ≤ k → k ≤ 225 → J k j = I k j) : ORC J V P n := ⟨(e 223 2 (by decide) (by decide)).trans h.1, h.2.1, fun k hk => ⟨(e 224 k (by decide) (by decide)).trans (h.2.2 k hk).1, (e 225 k (by decide) (by decide)).trans (h.2.2 k hk).2⟩⟩
theorem ORM_f {I J : pI} {V P : Nat → Int} {n : Nat} (h : ORM I V P n) (e0 : J 235 27 = I 235 27) (e : ∀ k j, 245 ≤ k → k ≤ 246 → J k j = I k j) : ORM J V P n := ⟨e0.trans h.1, h.2.1, fun k hk => ⟨(e 245 k (by decide) (by decide)).trans (h.2.2 k hk).1, (e 246 k (by decide) (by decide)).trans (h.2.2 k hk).2⟩⟩
/-- a place is free at a: what was there and behind has gone on by one -/
def INS (I : pI) (x y : Nat) (V P : Nat → Int) (n : Nat) (v : Int) (a : Nat) : Prop := a ≤ n ∧ (∀ k, k < a → I x k = V k ∧ I y k = P k) ∧ (∀ k, a < k → k ≤ n → I x k = V (k - 1) ∧ I y k = P (k - 1)) ∧ posF V v a = posF V v n
theorem INS_s {I J : pI} {x y : Nat} {V P : Nat → Int} {n a : Nat} {v : Int} (h : INS I x y V P n v (a + 1)) (hv : v < V a) (f : ∀ k, ¬ k = a + 1 → J x k = I x k ∧ J y k = I y k) (g : J x (a + 1) = I x a ∧ J y (a + 1) = I y a) : INS J x y V P n v a := by
  obtain ⟨h1, h2, h3, h4⟩ := h
  refine ⟨by omega, fun k hk => ?_, fun k hk hn => ?_, ?_⟩
  · have z := f k (by omega)
    have w := h2 k (by omega)
    exact ⟨z.1.trans w.1, z.2.trans w.2⟩
  · by_cases e : k = a + 1
    · subst e
      have w := h2 a (by omega)
      exact ⟨g.1.trans w.1, g.2.trans w.2⟩
    · have z := f k e
      have w := h3 k (by omega) hn
      exact ⟨z.1.trans w.1, z.2.trans w.2⟩
  · rw [← h4, posF_y hv]
theorem INS_z {I J : pI} {x y : Nat} {V P : Nat → Int} {n a : Nat} {v p : Int} (h : INS I x y V P n v a) (hz : a = 0 ∨ ∃ b, a = b + 1 ∧ ¬ v < V b) (f : ∀ k, ¬ k = a → J x k = I x k ∧ J y k = I y k) (g : J x a = v ∧ J y a = p) : ∀ k, k < n + 1 → J x k = inF2 V (posF V v n) v k ∧ J y k = inF2 P (posF V v n) p k := fun k hk => by
  obtain ⟨h1, h2, h3, h4⟩ := h
  have e : posF V v n = a := by
    rw [← h4]
    rcases hz with e | ⟨b, e, c⟩
    · subst e; rfl
    · subst e; exact posF_n c
  rw [e]
  by_cases l : k < a
  · have z := f k (by omega)
    have w := h2 k l
    rw [inF2_l l, inF2_l l]
    exact ⟨z.1.trans w.1, z.2.trans w.2⟩
  · by_cases m : k = a
    · rw [inF2_e m, inF2_e m]; subst m; exact g
    · have z := f k m
      have w := h3 k (by omega) (by omega)
      rw [inF2_g (by omega), inF2_g (by omega)]
      exact ⟨z.1.trans w.1, z.2.trans w.2⟩
/-- of fn 0, fn 1 .. those that are there (0 and more), by order -/
def OFs (fn : Nat → Int) : Nat → (Nat → Int) × (Nat → Int) × Nat
  | 0 => (fun _ => 0, fun _ => 0, 0)
  | i + 1 => if 0 ≤ fn i then (inF2 (OFs fn i).1 (posF (OFs fn i).1 (fn i) (OFs fn i).2.2) (fn i), inF2 (OFs fn i).2.1 (posF (OFs fn i).1 (fn i) (OFs fn i).2.2) (i : Int), (OFs fn i).2.2 + 1) else OFs fn i
theorem OFs_y {fn : Nat → Int} {i : Nat} (h : 0 ≤ fn i) : OFs fn (i + 1) = (inF2 (OFs fn i).1 (posF (OFs fn i).1 (fn i) (OFs fn i).2.2) (fn i), inF2 (OFs fn i).2.1 (posF (OFs fn i).1 (fn i) (OFs fn i).2.2) (i : Int), (OFs fn i).2.2 + 1) := if_pos h
theorem OFs_n {fn : Nat → Int} {i : Nat} (h : ¬ 0 ≤ fn i) : OFs fn (i + 1) = OFs fn i := if_neg h
theorem OFs_b {fn : Nat → Int} : ∀ i : Nat, (OFs fn i).2.2 ≤ i := by
  intro i
  induction i with
  | zero => exact Nat.le_refl 0
  | succ i ih =>
    by_cases c : 0 ≤ fn i
    · rw [OFs_y c]; show (OFs fn i).2.2 + 1 ≤ i + 1; omega
    · rw [OFs_n c]; omega
theorem OFs_e {fn : Nat → Int} {m : Nat} (h : ∀ i, m ≤ i → fn i < 0) : ∀ j, OFs fn (m + j) = OFs fn m := by
  intro j
  induction j with
  | zero => rfl
  | succ j ih =>
    have q : ¬ 0 ≤ fn (m + j) := by have := h (m + j) (by omega); omega
    exact (OFs_n (i := m + j) q).trans ih
theorem OFs_m {fn : Nat → Int} {m : Nat} (hm : m ≤ 14) (h : ∀ i, m ≤ i → fn i < 0) : OFs fn 14 = OFs fn m := by
  rw [show 14 = m + (14 - m) from by omega]; exact OFs_e h _
theorem ORC_0 {I : pI} {fn : Nat → Int} (h : I 223 2 = 0) : ORC I (OFs fn (Int.toNat (0 : Int))).1 (OFs fn (Int.toNat (0 : Int))).2.1 (OFs fn (Int.toNat (0 : Int))).2.2 := ⟨h, by show (0 : Nat) ≤ 14; omega, fun k hk => absurd hk (by show ¬ k < 0; omega)⟩
theorem ORM_0 {I : pI} {fn : Nat → Int} (h : I 235 27 = 0) : ORM I (OFs fn (Int.toNat (0 : Int))).1 (OFs fn (Int.toNat (0 : Int))).2.1 (OFs fn (Int.toNat (0 : Int))).2.2 := ⟨h, by show (0 : Nat) ≤ 14; omega, fun k hk => absurd hk (by show ¬ k < 0; omega)⟩
/-- the values are the numbers of their pieces, which are below how many were asked -/
theorem OFs_v {fn : Nat → Int} : ∀ i k : Nat, k < (OFs fn i).2.2 → ∃ p : Nat, p < i ∧ 0 ≤ fn p ∧ (OFs fn i).1 k = fn p ∧ (OFs fn i).2.1 k = (p : Int) := by
  intro i
  induction i with
  | zero => intro k hk; exact absurd hk (by show ¬ k < 0; omega)
  | succ i ih =>
    intro k hk
    by_cases c : 0 ≤ fn i
    · rw [OFs_y c] at hk ⊢
      have hk2 : k < (OFs fn i).2.2 + 1 := hk
      show ∃ p : Nat, p < i + 1 ∧ 0 ≤ fn p ∧ inF2 _ _ _ k = fn p ∧ inF2 _ _ _ k = (p : Int)
      have pb := posF_b (V := (OFs fn i).1) (v := fn i) (OFs fn i).2.2
      by_cases l : k < posF (OFs fn i).1 (fn i) (OFs fn i).2.2
      · obtain ⟨p, a, b, d, e⟩ := ih k (by omega)
        rw [inF2_l l, inF2_l l]
        exact ⟨p, by omega, b, d, e⟩
      · by_cases m : k = posF (OFs fn i).1 (fn i) (OFs fn i).2.2
        · rw [inF2_e m, inF2_e m]
          exact ⟨i, by omega, c, rfl, rfl⟩
        · obtain ⟨p, a, b, d, e⟩ := ih (k - 1) (by omega)
          rw [inF2_g (by omega), inF2_g (by omega)]
          exact ⟨p, by omega, b, d, e⟩
    · rw [OFs_n c] at hk ⊢
      obtain ⟨p, a, b, d, e⟩ := ih k hk
      exact ⟨p, by omega, b, d, e⟩
theorem c_ins11_l (hF : FS F) (hR : Rg I) {v0 v1 : Int} {V P : Nat → Int} {n : Nat} (ho : ORC I V P n) (hn : n ≤ 13) (hQ : ∀ (I' : pI), Rg I' → (∀ k j, ¬ (223 ≤ k ∧ k ≤ 225) → I' k j = I k j) → (ORC I' (inF2 V (posF V v0 n) v0) (inF2 P (posF V v0 n) v1) (n + 1)) → Q none F I') : ∀ (mz : Nat) (a : Int) (J : pI), Rg J → (∀ k j, ¬ (223 ≤ k ∧ k ≤ 225) → J k j = I k j) → ((0 : Int) ≤ a) → ((a : Int) ≤ 13) → ((J 223 2) = (n : Int)) → (INS J 224 225 V P n v0 (Int.toNat a)) → (a).toNat < mz → GoN G d kX3_insert NP NP 22 [some (vr 223), some (vi v0), some (vi v1), some (vi a)] [] F J Q := by
  intro mz
  induction mz with
  | zero => intro a J hJ hV _ _ _ _ h; exact absurd h (Nat.not_lt_zero _)
  | succ mz ih =>
    intro a J hJ hV cc100 cc101 cc102 cc103 hm
    refine GoN_in (fun hok hA => ?_)
    have iiv0 : -2147483648 ≤ v0 ∧ v0 < 2147483648 := hok 1 _ rfl
    have iiv1 : -2147483648 ≤ v1 ∧ v1 < 2147483648 := hok 2 _ rfl
    have iia : -2147483648 ≤ a ∧ a < 2147483648 := hok 3 _ rfl
    have ib := cc103
    have ib1 := ib.1
    have a1 : -2147483648 ≤ (J 223 2) ∧ (J 223 2) < 2147483648 := hA.1 _ _
    refine Go_wp (by decide) ckX3_insert [22] ?_
    refine ⟨fun (c2 : ((a : Int) ≤ 0)) => ?_, fun (c2 : (¬ ((a : Int) ≤ 0))) => ?_⟩
    ·
      refine ⟨_, rfl, (by decide), ?_⟩
      refine fun w0 hw0 => ?_; obtain rfl : w0 = some 224 := hw0.symm.trans (FS.g hF rfl)
      refine ⟨_, rfl, (by decide), (show (0 : Int) ≤ a from by first | with_reducible assumption | omega | (simp only [wr, wl] at *; omega)), (show a < (14 : Int) from by first | with_reducible assumption | omega | (simp only [wr, wl] at *; omega)), ?_⟩
      refine ⟨_, rfl, (by decide), ?_⟩
      refine fun w0 hw0 => ?_; obtain rfl : w0 = some 225 := hw0.symm.trans (FS.g hF rfl)
      refine ⟨_, rfl, (by decide), (show (0 : Int) ≤ a from by first | with_reducible assumption | omega | (simp only [wr, wl] at *; omega)), (show a < (14 : Int) from by first | with_reducible assumption | omega | (simp only [wr, wl] at *; omega)), ?_⟩
      refine ⟨_, rfl, (by decide), ?_⟩
      refine ⟨_, rfl, (by decide), ?_⟩
      exact ⟨rfl, hQ _ (Rg.u (Rg.u (Rg.u hJ (Pr_p (k := 224) rfl _ _)) (Pr_p (k := 225) rfl _ _)) (Pr_f rfl)) (fun ka ja hk => ((uI_o (show ¬ (ka = 223 ∧ ja = 2) from by first | (intro e; obtain ⟨rfl, rfl⟩ := e; exact hk (by decide)) | omega))).trans (((uI_o (show ¬ (ka = 225 ∧ ja = (Int.toNat a)) from by first | (intro e; obtain ⟨rfl, _⟩ := e; exact hk (by decide)) | omega))).trans (((uI_o (show ¬ (ka = 224 ∧ ja = (Int.toNat a)) from by first | (intro e; obtain ⟨rfl, _⟩ := e; exact hk (by decide)) | omega))).trans ((hV ka ja (by omega)))))) ((by
                              have h := cc103
                              have hz : Int.toNat a = 0 ∨ ∃ b, Int.toNat a = b + 1 ∧ ¬ v0 < V b := by
                                by_cases q : a = 0
                                · exact Or.inl (by omega)
                                · refine Or.inr ⟨Int.toNat a - 1, by omega, ?_⟩
                                  have w := (h.2.1 (Int.toNat a - 1) (by omega)).1
                                  have w2 : J 224 (Int.toNat (wr (a - 1))) = J 224 (Int.toNat a - 1) := congrArg (J 224) (by have n1 : wr (a - 1) = a - 1 := wr_id (by unfold iR; omega); omega)
                                  first
                                  | omega
                                  | exact absurd (by omega) q
                              refine ⟨?_, by omega, fun k hk => INS_z h hz (fun k hk => ?_) ⟨(uI_o (show ¬ (224 = 223 ∧ (Int.toNat a) = 2) from fun e => absurd e.1 (Nat.ne_of_beq_eq_false rfl))).trans ((uI_o (show ¬ (224 = 225 ∧ (Int.toNat a) = (Int.toNat a)) from fun e => absurd e.1 (Nat.ne_of_beq_eq_false rfl))).trans (uJ_eqj (show (Int.toNat a) = (Int.toNat a) from by omega))), (uI_o (show ¬ (225 = 223 ∧ (Int.toNat a) = 2) from fun e => absurd e.1 (Nat.ne_of_beq_eq_false rfl))).trans (uJ_eqj (show (Int.toNat a) = (Int.toNat a) from by omega))⟩ k hk⟩
                              · have e : J 223 2 = (n : Int) := cc102
                                exact (uJ_eq).trans (by show wr (J 223 2 + 1) = ((n + 1 : Nat) : Int); rw [e, wr_id (by unfold iR; omega)]; omega)
                              · exact ⟨(uI_o (show ¬ (224 = 223 ∧ k = 2) from fun e => absurd e.1 (Nat.ne_of_beq_eq_false rfl))).trans ((uI_o (show ¬ (224 = 225 ∧ k = (Int.toNat a)) from fun e => absurd e.1 (Nat.ne_of_beq_eq_false rfl))).trans (uJ_ne (show ¬ k = (Int.toNat a) from by omega))), (uI_o (show ¬ (225 = 223 ∧ k = 2) from fun e => absurd e.1 (Nat.ne_of_beq_eq_false rfl))).trans ((uJ_ne (show ¬ k = (Int.toNat a) from by omega)).trans (uI_o (show ¬ (225 = 224 ∧ k = (Int.toNat a)) from fun e => absurd e.1 (Nat.ne_of_beq_eq_false rfl))))⟩))⟩
    ·
      refine ⟨_, rfl, (by decide), ?_⟩
      refine fun w0 hw0 => ?_; obtain rfl : w0 = some 224 := hw0.symm.trans (FS.g hF rfl)
      have n3 : (wr (a - 1)) = a - 1 := wr_id (show -2147483648 ≤ (a - 1 : Int) ∧ (a - 1 : Int) < 2147483648 from by omega)
      refine ⟨_, rfl, (by decide), (show (0 : Int) ≤ (wr (a - 1)) from by first | with_reducible assumption | omega | (simp only [wr, wl] at *; omega)), (show (wr (a - 1)) < (14 : Int) from by first | with_reducible assumption | omega | (simp only [wr, wl] at *; omega)), ?_⟩
      have a4 : -2147483648 ≤ (J 224 (Int.toNat (wr (a - 1)))) ∧ (J 224 (Int.toNat (wr (a - 1)))) < 2147483648 := hA.1 _ _
      refine ⟨fun (c5 : (((J 224 (Int.toNat (wr (a - 1)))) : Int) ≤ v0)) => ?_, fun (c5 : (¬ (((J 224 (Int.toNat (wr (a - 1)))) : Int) ≤ v0))) => ?_⟩
      ·
        refine ⟨_, rfl, (by decide), ?_⟩
        refine fun w0 hw0 => ?_; obtain rfl : w0 = some 224 := hw0.symm.trans (FS.g hF rfl)
        refine ⟨_, rfl, (by decide), (show (0 : Int) ≤ a from by first | with_reducible assumption | omega | (simp only [wr, wl] at *; omega)), (show a < (14 : Int) from by first | with_reducible assumption | omega | (simp only [wr, wl] at *; omega)), ?_⟩
        refine ⟨_, rfl, (by decide), ?_⟩
        refine fun w0 hw0 => ?_; obtain rfl : w0 = some 225 := hw0.symm.trans (FS.g hF rfl)
        refine ⟨_, rfl, (by decide), (show (0 : Int) ≤ a from by first | with_reducible assumption | omega | (simp only [wr, wl] at *; omega)), (show a < (14 : Int) from by first | with_reducible assumption | omega | (simp only [wr, wl] at *; omega)), ?_⟩
        refine ⟨_, rfl, (by decide), ?_⟩
        refine ⟨_, rfl, (by decide), ?_⟩
        exact ⟨rfl, hQ _ (Rg.u (Rg.u (Rg.u hJ (Pr_p (k := 224) rfl _ _)) (Pr_p (k := 225) rfl _ _)) (Pr_f rfl)) (fun ka ja hk => ((uI_o (show ¬ (ka = 223 ∧ ja = 2) from by first | (intro e; obtain ⟨rfl, rfl⟩ := e; exact hk (by decide)) | omega))).trans (((uI_o (show ¬ (ka = 225 ∧ ja = (Int.toNat a)) from by first | (intro e; obtain ⟨rfl, _⟩ := e; exact hk (by decide)) | omega))).trans (((uI_o (show ¬ (ka = 224 ∧ ja = (Int.toNat a)) from by first | (intro e; obtain ⟨rfl, _⟩ := e; exact hk (by decide)) | omega))).trans ((hV ka ja (by omega)))))) ((by
                              have h := cc103
                              have hz : Int.toNat a = 0 ∨ ∃ b, Int.toNat a = b + 1 ∧ ¬ v0 < V b := by
                                by_cases q : a = 0
                                · exact Or.inl (by omega)
                                · refine Or.inr ⟨Int.toNat a - 1, by omega, ?_⟩
                                  have w := (h.2.1 (Int.toNat a - 1) (by omega)).1
                                  have w2 : J 224 (Int.toNat (wr (a - 1))) = J 224 (Int.toNat a - 1) := congrArg (J 224) (by have n1 : wr (a - 1) = a - 1 := wr_id (by unfold iR; omega); omega)
                                  first
                                  | omega
                                  | exact absurd (by omega) q
                              refine ⟨?_, by omega, fun k hk => INS_z h hz (fun k hk => ?_) ⟨(uI_o (show ¬ (224 = 223 ∧ (Int.toNat a) = 2) from fun e => absurd e.1 (Nat.ne_of_beq_eq_false rfl))).trans ((uI_o (show ¬ (224 = 225 ∧ (Int.toNat a) = (Int.toNat a)) from fun e => absurd e.1 (Nat.ne_of_beq_eq_false rfl))).trans (uJ_eqj (show (Int.toNat a) = (Int.toNat a) from by omega))), (uI_o (show ¬ (225 = 223 ∧ (Int.toNat a) = 2) from fun e => absurd e.1 (Nat.ne_of_beq_eq_false rfl))).trans (uJ_eqj (show (Int.toNat a) = (Int.toNat a) from by omega))⟩ k hk⟩
                              · have e : J 223 2 = (n : Int) := cc102
                                exact (uJ_eq).trans (by show wr (J 223 2 + 1) = ((n + 1 : Nat) : Int); rw [e, wr_id (by unfold iR; omega)]; omega)
                              · exact ⟨(uI_o (show ¬ (224 = 223 ∧ k = 2) from fun e => absurd e.1 (Nat.ne_of_beq_eq_false rfl))).trans ((uI_o (show ¬ (224 = 225 ∧ k = (Int.toNat a)) from fun e => absurd e.1 (Nat.ne_of_beq_eq_false rfl))).trans (uJ_ne (show ¬ k = (Int.toNat a) from by omega))), (uI_o (show ¬ (225 = 223 ∧ k = 2) from fun e => absurd e.1 (Nat.ne_of_beq_eq_false rfl))).trans ((uJ_ne (show ¬ k = (Int.toNat a) from by omega)).trans (uI_o (show ¬ (225 = 224 ∧ k = (Int.toNat a)) from fun e => absurd e.1 (Nat.ne_of_beq_eq_false rfl))))⟩))⟩
      ·
        refine ⟨_, rfl, (by decide), ?_⟩
        refine fun w0 hw0 => ?_; obtain rfl : w0 = some 224 := hw0.symm.trans (FS.g hF rfl)
        refine ⟨_, rfl, (by decide), ?_⟩
        refine fun w0 hw0 => ?_; obtain rfl : w0 = some 224 := hw0.symm.trans (FS.g hF rfl)
        refine ⟨_, rfl, (by decide), (show (0 : Int) ≤ (wr (a - 1)) from by first | with_reducible assumption | omega | (simp only [wr, wl] at *; omega)), (show (wr (a - 1)) < (14 : Int) from by first | with_reducible assumption | omega | (simp only [wr, wl] at *; omega)), ?_⟩
        refine ⟨_, rfl, (by decide), (show (0 : Int) ≤ a from by first | with_reducible assumption | omega | (simp only [wr, wl] at *; omega)), (show a < (14 : Int) from by first | with_reducible assumption | omega | (simp only [wr, wl] at *; omega)), ?_⟩
        refine ⟨_, rfl, (by decide), ?_⟩
        refine fun w0 hw0 => ?_; obtain rfl : w0 = some 225 := hw0.symm.trans (FS.g hF rfl)
        refine ⟨_, rfl, (by decide), ?_⟩
        refine fun w0 hw0 => ?_; obtain rfl : w0 = some 225 := hw0.symm.trans (FS.g hF rfl)
        refine ⟨_, rfl, (by decide), (show (0 : Int) ≤ (wr (a - 1)) from by first | with_reducible assumption | omega | (simp only [wr, wl] at *; omega)), (show (wr (a - 1)) < (14 : Int) from by first | with_reducible assumption | omega | (simp only [wr, wl] at *; omega)), ?_⟩
        refine ⟨_, rfl, (by decide), (show (0 : Int) ≤ a from by first | with_reducible assumption | omega | (simp only [wr, wl] at *; omega)), (show a < (14 : Int) from by first | with_reducible assumption | omega | (simp only [wr, wl] at *; omega)), ?_⟩
        have n6 : (wr (a + (-1))) = a + (-1) := wr_id (show -2147483648 ≤ (a + (-1) : Int) ∧ (a + (-1) : Int) < 2147483648 from by omega)
        exact ih (wr (a + (-1))) (uI (uI J 224 (Int.toNat a) (J 224 (Int.toNat (wr (a - 1))))) 225 (Int.toNat a) (J 225 (Int.toNat (wr (a - 1))))) (Rg.u (Rg.u hJ (Pr_p (k := 224) rfl _ _)) (Pr_p (k := 225) rfl _ _)) (fun ka ja hk => ((uI_o (show ¬ (ka = 225 ∧ ja = (Int.toNat a)) from by first | (intro e; obtain ⟨rfl, _⟩ := e; exact hk (by decide)) | omega))).trans (((uI_o (show ¬ (ka = 224 ∧ ja = (Int.toNat a)) from by first | (intro e; obtain ⟨rfl, _⟩ := e; exact hk (by decide)) | omega))).trans ((hV ka ja (by omega))))) (show (0 : Int) ≤ (wr (a + (-1))) from by first | with_reducible assumption | omega | (simp only [wr, wl] at *; omega)) (show ((wr (a + (-1))) : Int) ≤ 13 from by first | with_reducible assumption | omega | (simp only [wr, wl] at *; omega)) (show (J 223 2) = (n : Int) from by first | omega | (simp only [wr, wl] at *; omega)) (show INS (uI (uI J 224 (Int.toNat a) (J 224 (Int.toNat (wr (a - 1))))) 225 (Int.toNat a) (J 225 (Int.toNat (wr (a - 1))))) 224 225 V P n v0 (Int.toNat (wr (a + (-1)))) from (by
                              have h := cc103
                              have ea : Int.toNat a = Int.toNat (wr (a + (-1))) + 1 := by omega
                              have h2 := h
                              rw [ea] at h2
                              have w := (h.2.1 (Int.toNat (wr (a + (-1)))) (by omega)).1
                              have w2 : J 224 (Int.toNat (wr (a - 1))) = J 224 (Int.toNat (wr (a + (-1)))) := congrArg (J 224) (by omega)
                              have z1 : (uI (uI J 224 (Int.toNat a) (J 224 (Int.toNat (wr (a - 1))))) 225 (Int.toNat a) (J 225 (Int.toNat (wr (a - 1))))) 224 (Int.toNat a) = J 224 (Int.toNat (wr (a + (-1)))) := ((uI_o (show ¬ (224 = 225 ∧ (Int.toNat a) = (Int.toNat a)) from fun e => absurd e.1 (Nat.ne_of_beq_eq_false rfl))).trans (uJ_eqj (show (Int.toNat a) = (Int.toNat a) from by omega))).trans (congrArg (J 224) (by omega))
                              have z2 : (uI (uI J 224 (Int.toNat a) (J 224 (Int.toNat (wr (a - 1))))) 225 (Int.toNat a) (J 225 (Int.toNat (wr (a - 1))))) 225 (Int.toNat a) = J 225 (Int.toNat (wr (a + (-1)))) := (uJ_eqj (show (Int.toNat a) = (Int.toNat a) from by omega)).trans (congrArg (J 225) (by omega))
                              refine INS_s h2 (by omega) (fun k hk => ?_) ?_
                              · have hk2 : ¬ k = Int.toNat a := by omega
                                exact ⟨(uI_o (show ¬ (224 = 225 ∧ k = (Int.toNat a)) from fun e => absurd e.1 (Nat.ne_of_beq_eq_false rfl))).trans (uJ_ne (show ¬ k = (Int.toNat a) from by omega)), (uJ_ne (show ¬ k = (Int.toNat a) from by omega)).trans (uI_o (show ¬ (225 = 224 ∧ k = (Int.toNat a)) from fun e => absurd e.1 (Nat.ne_of_beq_eq_false rfl)))⟩
                              · rw [← ea]
                                exact ⟨z1, z2⟩)) (show ((wr (a + (-1)))).toNat < mz from by omega)
theorem c_ins11 (hF : FS F) (hR : Rg I) {v0 v1 : Int} {V P : Nat → Int} {n : Nat} (ho : ORC I V P n) (hn : n ≤ 13) (hQ : ∀ (I' : pI), Rg I' → AR I' → (∀ k j, ¬ (223 ≤ k ∧ k ≤ 225) → I' k j = I k j) → (ORC I' (inF2 V (posF V v0 n) v0) (inF2 P (posF V v0 n) v1) (n + 1)) → Q none F I') : CallN G d kX3_insert [vr 223, vi v0, vi v1] NP F I Q := by
  refine CallN_in (fun hok hA => CallN_out ?_)
  have iv0 : -2147483648 ≤ v0 ∧ v0 < 2147483648 := hok (vi v0) (by simp)
  have iv1 : -2147483648 ≤ v1 ∧ v1 < 2147483648 := hok (vi v1) (by simp)
  have e0 := ho.1
  refine Call_wp (lv := [some (vr 223), some (vi v0), some (vi v1), none]) (by decide) ckX3_insert [22] rfl rfl ?_
  refine ⟨_, rfl, (by decide), ?_⟩
  have a1 : -2147483648 ≤ (I 223 2) ∧ (I 223 2) < 2147483648 := hA.1 _ _
  refine ⟨fun (c2 : (((I 223 2) : Int) < 0)) => ?_, fun (c2 : (¬ (((I 223 2) : Int) < 0))) => ?_⟩
  ·
    exact ⟨rfl, fun hv hA' => hQ _ hR hA' (fun _ _ _ => rfl) ((by
                              exfalso
                              have e := ho.1
                              omega))⟩
  ·
    refine ⟨_, rfl, (by decide), ?_⟩
    refine ⟨fun (c3 : (((I 223 2) : Int) < 14)) => ?_, fun (c3 : (¬ (((I 223 2) : Int) < 14))) => ?_⟩
    ·
      refine ⟨_, rfl, (by decide), ?_⟩
      refine c_ins11_l hF hR ho hn (fun I' g1 g2 g3 hv hA' => hQ _ g1 hA' g2 g3) _ (I 223 2) I hR (fun _ _ _ => rfl) (show (0 : Int) ≤ (I 223 2) from by first | with_reducible assumption | omega | (simp only [wr, wl] at *; omega)) (show ((I 223 2) : Int) ≤ 13 from by first | with_reducible assumption | omega | (simp only [wr, wl] at *; omega)) (show (I 223 2) = (n : Int) from by first | omega | (simp only [wr, wl] at *; omega)) (show INS I 224 225 V P n v0 (Int.toNat (I 223 2)) from ⟨by have e := ho.1; omega, fun k hk => ho.2.2 k (by have e := ho.1; omega), fun k hk hk2 => absurd hk2 (by have e := ho.1; omega), by rw [show Int.toNat (I 223 2) = n from by have e := ho.1; omega]⟩) (Nat.lt_succ_self _)
    ·
      exact ⟨rfl, fun hv hA' => hQ _ hR hA' (fun _ _ _ => rfl) ((by
                              exfalso
                              have e := ho.1
                              omega))⟩
theorem r_ins11_l (hF : FS F) (hR : Rg I) {v0 v1 : Int} {V P : Nat → Int} {n : Nat} (ho : ORM I V P n) (hn : n ≤ 13) (hQ : ∀ (I' : pI), Rg I' → (∀ k j, ¬ ((k = 235 ∧ (j = 27)) ∨ k = 245 ∨ k = 246) → I' k j = I k j) → (ORM I' (inF2 V (posF V v0 n) v0) (inF2 P (posF V v0 n) v1) (n + 1)) → Q none F I') : ∀ (mz : Nat) (a : Int) (J : pI), Rg J → (∀ k j, ¬ ((k = 235 ∧ (j = 27)) ∨ k = 245 ∨ k = 246) → J k j = I k j) → ((0 : Int) ≤ a) → ((a : Int) ≤ 13) → ((J 235 27) = (n : Int)) → (INS J 245 246 V P n v0 (Int.toNat a)) → (a).toNat < mz → GoN G d kX12_adds NP NP 5 [some (vr 235), some (vi v0), some (vi v1), some (vi a)] [] F J Q := by
  intro mz
  induction mz with
  | zero => intro a J hJ hV _ _ _ _ h; exact absurd h (Nat.not_lt_zero _)
  | succ mz ih =>
    intro a J hJ hV cc100 cc101 cc102 cc103 hm
    refine GoN_in (fun hok hA => ?_)
    have iiv0 : -2147483648 ≤ v0 ∧ v0 < 2147483648 := hok 1 _ rfl
    have iiv1 : -2147483648 ≤ v1 ∧ v1 < 2147483648 := hok 2 _ rfl
    have iia : -2147483648 ≤ a ∧ a < 2147483648 := hok 3 _ rfl
    have ib := cc103
    have ib1 := ib.1
    have r1 : 0 ≤ (J 235 27) ∧ (J 235 27) ≤ 14 := Rg.f27 hJ
    refine Go_wp (by decide) ckX12_adds [5] ?_
    refine ⟨fun (c3 : ((a : Int) ≤ 0)) => ?_, fun (c3 : (¬ ((a : Int) ≤ 0))) => ?_⟩
    ·
      refine ⟨_, rfl, (by decide), ?_⟩
      refine fun w0 hw0 => ?_; obtain rfl : w0 = some 245 := hw0.symm.trans (FS.g hF rfl)
      refine ⟨_, rfl, (by decide), (show (0 : Int) ≤ a from by first | with_reducible assumption | omega | (simp only [wr, wl] at *; omega)), (show a < (14 : Int) from by first | with_reducible assumption | omega | (simp only [wr, wl] at *; omega)), ?_⟩
      refine ⟨_, rfl, (by decide), ?_⟩
      refine fun w0 hw0 => ?_; obtain rfl : w0 = some 246 := hw0.symm.trans (FS.g hF rfl)
      refine ⟨_, rfl, (by decide), (show (0 : Int) ≤ a from by first | with_reducible assumption | omega | (simp only [wr, wl] at *; omega)), (show a < (14 : Int) from by first | with_reducible assumption | omega | (simp only [wr, wl] at *; omega)), ?_⟩
      refine ⟨_, rfl, (by decide), ?_⟩
      refine ⟨_, rfl, (by decide), ?_⟩
      have n4 : (wr ((J 235 27) + 1)) = (J 235 27) + 1 := wr_id (show -2147483648 ≤ ((J 235 27) + 1 : Int) ∧ ((J 235 27) + 1 : Int) < 2147483648 from by omega)
      have p5 : (0 : Int) ≤ (wr ((J 235 27) + 1)) ∧ ((wr ((J 235 27) + 1)) : Int) ≤ 14 := by first | omega | (simp only [wr, wl] at *; omega)
      exact ⟨rfl, hQ _ (Rg.u (Rg.u (Rg.u hJ (Pr_p (k := 245) rfl _ _)) (Pr_p (k := 246) rfl _ _)) (Pr_x27 p5)) (fun ka ja hk => ((uI_o (show ¬ (ka = 235 ∧ ja = 27) from by first | (intro e; obtain ⟨rfl, rfl⟩ := e; exact hk (by decide)) | omega))).trans (((uI_o (show ¬ (ka = 246 ∧ ja = (Int.toNat a)) from by first | (intro e; obtain ⟨rfl, _⟩ := e; exact hk (by decide)) | omega))).trans (((uI_o (show ¬ (ka = 245 ∧ ja = (Int.toNat a)) from by first | (intro e; obtain ⟨rfl, _⟩ := e; exact hk (by decide)) | omega))).trans ((hV ka ja (by omega)))))) ((by
                              have h := cc103
                              have hz : Int.toNat a = 0 ∨ ∃ b, Int.toNat a = b + 1 ∧ ¬ v0 < V b := by
                                by_cases q : a = 0
                                · exact Or.inl (by omega)
                                · refine Or.inr ⟨Int.toNat a - 1, by omega, ?_⟩
                                  have w := (h.2.1 (Int.toNat a - 1) (by omega)).1
                                  have w2 : J 245 (Int.toNat (wr (a - 1))) = J 245 (Int.toNat a - 1) := congrArg (J 245) (by have n1 : wr (a - 1) = a - 1 := wr_id (by unfold iR; omega); omega)
                                  first
                                  | omega
                                  | exact absurd (by omega) q
                              refine ⟨?_, by omega, fun k hk => INS_z h hz (fun k hk => ?_) ⟨(uI_o (show ¬ (245 = 235 ∧ (Int.toNat a) = 27) from fun e => absurd e.1 (Nat.ne_of_beq_eq_false rfl))).trans ((uI_o (show ¬ (245 = 246 ∧ (Int.toNat a) = (Int.toNat a)) from fun e => absurd e.1 (Nat.ne_of_beq_eq_false rfl))).trans (uJ_eqj (show (Int.toNat a) = (Int.toNat a) from by omega))), (uI_o (show ¬ (246 = 235 ∧ (Int.toNat a) = 27) from fun e => absurd e.1 (Nat.ne_of_beq_eq_false rfl))).trans (uJ_eqj (show (Int.toNat a) = (Int.toNat a) from by omega))⟩ k hk⟩
                              · have e : J 235 27 = (n : Int) := cc102
                                exact (uJ_eq).trans (by show wr (J 235 27 + 1) = ((n + 1 : Nat) : Int); rw [e, wr_id (by unfold iR; omega)]; omega)
                              · exact ⟨(uI_o (show ¬ (245 = 235 ∧ k = 27) from fun e => absurd e.1 (Nat.ne_of_beq_eq_false rfl))).trans ((uI_o (show ¬ (245 = 246 ∧ k = (Int.toNat a)) from fun e => absurd e.1 (Nat.ne_of_beq_eq_false rfl))).trans (uJ_ne (show ¬ k = (Int.toNat a) from by omega))), (uI_o (show ¬ (246 = 235 ∧ k = 27) from fun e => absurd e.1 (Nat.ne_of_beq_eq_false rfl))).trans ((uJ_ne (show ¬ k = (Int.toNat a) from by omega)).trans (uI_o (show ¬ (246 = 245 ∧ k = (Int.toNat a)) from fun e => absurd e.1 (Nat.ne_of_beq_eq_false rfl))))⟩))⟩
    ·
      refine ⟨_, rfl, (by decide), ?_⟩
      refine fun w0 hw0 => ?_; obtain rfl : w0 = some 245 := hw0.symm.trans (FS.g hF rfl)
      have n6 : (wr (a - 1)) = a - 1 := wr_id (show -2147483648 ≤ (a - 1 : Int) ∧ (a - 1 : Int) < 2147483648 from by omega)
      refine ⟨_, rfl, (by decide), (show (0 : Int) ≤ (wr (a - 1)) from by first | with_reducible assumption | omega | (simp only [wr, wl] at *; omega)), (show (wr (a - 1)) < (14 : Int) from by first | with_reducible assumption | omega | (simp only [wr, wl] at *; omega)), ?_⟩
      have a7 : -2147483648 ≤ (J 245 (Int.toNat (wr (a - 1)))) ∧ (J 245 (Int.toNat (wr (a - 1)))) < 2147483648 := hA.1 _ _
      refine ⟨fun (c8 : (((J 245 (Int.toNat (wr (a - 1)))) : Int) ≤ v0)) => ?_, fun (c8 : (¬ (((J 245 (Int.toNat (wr (a - 1)))) : Int) ≤ v0))) => ?_⟩
      ·
        refine ⟨_, rfl, (by decide), ?_⟩
        refine fun w0 hw0 => ?_; obtain rfl : w0 = some 245 := hw0.symm.trans (FS.g hF rfl)
        refine ⟨_, rfl, (by decide), (show (0 : Int) ≤ a from by first | with_reducible assumption | omega | (simp only [wr, wl] at *; omega)), (show a < (14 : Int) from by first | with_reducible assumption | omega | (simp only [wr, wl] at *; omega)), ?_⟩
        refine ⟨_, rfl, (by decide), ?_⟩
        refine fun w0 hw0 => ?_; obtain rfl : w0 = some 246 := hw0.symm.trans (FS.g hF rfl)
        refine ⟨_, rfl, (by decide), (show (0 : Int) ≤ a from by first | with_reducible assumption | omega | (simp only [wr, wl] at *; omega)), (show a < (14 : Int) from by first | with_reducible assumption | omega | (simp only [wr, wl] at *; omega)), ?_⟩
        refine ⟨_, rfl, (by decide), ?_⟩
        refine ⟨_, rfl, (by decide), ?_⟩
        have n9 : (wr ((J 235 27) + 1)) = (J 235 27) + 1 := wr_id (show -2147483648 ≤ ((J 235 27) + 1 : Int) ∧ ((J 235 27) + 1 : Int) < 2147483648 from by omega)
        have p10 : (0 : Int) ≤ (wr ((J 235 27) + 1)) ∧ ((wr ((J 235 27) + 1)) : Int) ≤ 14 := by first | omega | (simp only [wr, wl] at *; omega)
        exact ⟨rfl, hQ _ (Rg.u (Rg.u (Rg.u hJ (Pr_p (k := 245) rfl _ _)) (Pr_p (k := 246) rfl _ _)) (Pr_x27 p10)) (fun ka ja hk => ((uI_o (show ¬ (ka = 235 ∧ ja = 27) from by first | (intro e; obtain ⟨rfl, rfl⟩ := e; exact hk (by decide)) | omega))).trans (((uI_o (show ¬ (ka = 246 ∧ ja = (Int.toNat a)) from by first | (intro e; obtain ⟨rfl, _⟩ := e; exact hk (by decide)) | omega))).trans (((uI_o (show ¬ (ka = 245 ∧ ja = (Int.toNat a)) from by first | (intro e; obtain ⟨rfl, _⟩ := e; exact hk (by decide)) | omega))).trans ((hV ka ja (by omega)))))) ((by
                              have h := cc103
                              have hz : Int.toNat a = 0 ∨ ∃ b, Int.toNat a = b + 1 ∧ ¬ v0 < V b := by
                                by_cases q : a = 0
                                · exact Or.inl (by omega)
                                · refine Or.inr ⟨Int.toNat a - 1, by omega, ?_⟩
                                  have w := (h.2.1 (Int.toNat a - 1) (by omega)).1
                                  have w2 : J 245 (Int.toNat (wr (a - 1))) = J 245 (Int.toNat a - 1) := congrArg (J 245) (by have n1 : wr (a - 1) = a - 1 := wr_id (by unfold iR; omega); omega)
                                  first
                                  | omega
                                  | exact absurd (by omega) q
                              refine ⟨?_, by omega, fun k hk => INS_z h hz (fun k hk => ?_) ⟨(uI_o (show ¬ (245 = 235 ∧ (Int.toNat a) = 27) from fun e => absurd e.1 (Nat.ne_of_beq_eq_false rfl))).trans ((uI_o (show ¬ (245 = 246 ∧ (Int.toNat a) = (Int.toNat a)) from fun e => absurd e.1 (Nat.ne_of_beq_eq_false rfl))).trans (uJ_eqj (show (Int.toNat a) = (Int.toNat a) from by omega))), (uI_o (show ¬ (246 = 235 ∧ (Int.toNat a) = 27) from fun e => absurd e.1 (Nat.ne_of_beq_eq_false rfl))).trans (uJ_eqj (show (Int.toNat a) = (Int.toNat a) from by omega))⟩ k hk⟩
                              · have e : J 235 27 = (n : Int) := cc102
                                exact (uJ_eq).trans (by show wr (J 235 27 + 1) = ((n + 1 : Nat) : Int); rw [e, wr_id (by unfold iR; omega)]; omega)
                              · exact ⟨(uI_o (show ¬ (245 = 235 ∧ k = 27) from fun e => absurd e.1 (Nat.ne_of_beq_eq_false rfl))).trans ((uI_o (show ¬ (245 = 246 ∧ k = (Int.toNat a)) from fun e => absurd e.1 (Nat.ne_of_beq_eq_false rfl))).trans (uJ_ne (show ¬ k = (Int.toNat a) from by omega))), (uI_o (show ¬ (246 = 235 ∧ k = 27) from fun e => absurd e.1 (Nat.ne_of_beq_eq_false rfl))).trans ((uJ_ne (show ¬ k = (Int.toNat a) from by omega)).trans (uI_o (show ¬ (246 = 245 ∧ k = (Int.toNat a)) from fun e => absurd e.1 (Nat.ne_of_beq_eq_false rfl))))⟩))⟩
      ·
        refine ⟨_, rfl, (by decide), ?_⟩
        refine fun w0 hw0 => ?_; obtain rfl : w0 = some 245 := hw0.symm.trans (FS.g hF rfl)
        refine ⟨_, rfl, (by decide), ?_⟩
        refine fun w0 hw0 => ?_; obtain rfl : w0 = some 245 := hw0.symm.trans (FS.g hF rfl)
        refine ⟨_, rfl, (by decide), (show (0 : Int) ≤ (wr (a - 1)) from by first | with_reducible assumption | omega | (simp only [wr, wl] at *; omega)), (show (wr (a - 1)) < (14 : Int) from by first | with_reducible assumption | omega | (simp only [wr, wl] at *; omega)), ?_⟩
        refine ⟨_, rfl, (by decide), (show (0 : Int) ≤ a from by first | with_reducible assumption | omega | (simp only [wr, wl] at *; omega)), (show a < (14 : Int) from by first | with_reducible assumption | omega | (simp only [wr, wl] at *; omega)), ?_⟩
        refine ⟨_, rfl, (by decide), ?_⟩
        refine fun w0 hw0 => ?_; obtain rfl : w0 = some 246 := hw0.symm.trans (FS.g hF rfl)
        refine ⟨_, rfl, (by decide), ?_⟩
        refine fun w0 hw0 => ?_; obtain rfl : w0 = some 246 := hw0.symm.trans (FS.g hF rfl)
        refine ⟨_, rfl, (by decide), (show (0 : Int) ≤ (wr (a - 1)) from by first | with_reducible assumption | omega | (simp only [wr, wl] at *; omega)), (show (wr (a - 1)) < (14 : Int) from by first | with_reducible assumption | omega | (simp only [wr, wl] at *; omega)), ?_⟩
        refine ⟨_, rfl, (by decide), (show (0 : Int) ≤ a from by first | with_reducible assumption | omega | (simp only [wr, wl] at *; omega)), (show a < (14 : Int) from by first | with_reducible assumption | omega | (simp only [wr, wl] at *; omega)), ?_⟩
        have n11 : (wr (a + (-1))) = a + (-1) := wr_id (show -2147483648 ≤ (a + (-1) : Int) ∧ (a + (-1) : Int) < 2147483648 from by omega)
        exact ih (wr (a + (-1))) (uI (uI J 245 (Int.toNat a) (J 245 (Int.toNat (wr (a - 1))))) 246 (Int.toNat a) (J 246 (Int.toNat (wr (a - 1))))) (Rg.u (Rg.u hJ (Pr_p (k := 245) rfl _ _)) (Pr_p (k := 246) rfl _ _)) (fun ka ja hk => ((uI_o (show ¬ (ka = 246 ∧ ja = (Int.toNat a)) from by first | (intro e; obtain ⟨rfl, _⟩ := e; exact hk (by decide)) | omega))).trans (((uI_o (show ¬ (ka = 245 ∧ ja = (Int.toNat a)) from by first | (intro e; obtain ⟨rfl, _⟩ := e; exact hk (by decide)) | omega))).trans ((hV ka ja (by omega))))) (show (0 : Int) ≤ (wr (a + (-1))) from by first | with_reducible assumption | omega | (simp only [wr, wl] at *; omega)) (show ((wr (a + (-1))) : Int) ≤ 13 from by first | with_reducible assumption | omega | (simp only [wr, wl] at *; omega)) (show (J 235 27) = (n : Int) from by first | omega | (simp only [wr, wl] at *; omega)) (show INS (uI (uI J 245 (Int.toNat a) (J 245 (Int.toNat (wr (a - 1))))) 246 (Int.toNat a) (J 246 (Int.toNat (wr (a - 1))))) 245 246 V P n v0 (Int.toNat (wr (a + (-1)))) from (by
                              have h := cc103
                              have ea : Int.toNat a = Int.toNat (wr (a + (-1))) + 1 := by omega
                              have h2 := h
                              rw [ea] at h2
                              have w := (h.2.1 (Int.toNat (wr (a + (-1)))) (by omega)).1
                              have w2 : J 245 (Int.toNat (wr (a - 1))) = J 245 (Int.toNat (wr (a + (-1)))) := congrArg (J 245) (by omega)
                              have z1 : (uI (uI J 245 (Int.toNat a) (J 245 (Int.toNat (wr (a - 1))))) 246 (Int.toNat a) (J 246 (Int.toNat (wr (a - 1))))) 245 (Int.toNat a) = J 245 (Int.toNat (wr (a + (-1)))) := ((uI_o (show ¬ (245 = 246 ∧ (Int.toNat a) = (Int.toNat a)) from fun e => absurd e.1 (Nat.ne_of_beq_eq_false rfl))).trans (uJ_eqj (show (Int.toNat a) = (Int.toNat a) from by omega))).trans (congrArg (J 245) (by omega))
                              have z2 : (uI (uI J 245 (Int.toNat a) (J 245 (Int.toNat (wr (a - 1))))) 246 (Int.toNat a) (J 246 (Int.toNat (wr (a - 1))))) 246 (Int.toNat a) = J 246 (Int.toNat (wr (a + (-1)))) := (uJ_eqj (show (Int.toNat a) = (Int.toNat a) from by omega)).trans (congrArg (J 246) (by omega))
                              refine INS_s h2 (by omega) (fun k hk => ?_) ?_
                              · have hk2 : ¬ k = Int.toNat a := by omega
                                exact ⟨(uI_o (show ¬ (245 = 246 ∧ k = (Int.toNat a)) from fun e => absurd e.1 (Nat.ne_of_beq_eq_false rfl))).trans (uJ_ne (show ¬ k = (Int.toNat a) from by omega)), (uJ_ne (show ¬ k = (Int.toNat a) from by omega)).trans (uI_o (show ¬ (246 = 245 ∧ k = (Int.toNat a)) from fun e => absurd e.1 (Nat.ne_of_beq_eq_false rfl)))⟩
                              · rw [← ea]
                                exact ⟨z1, z2⟩)) (show ((wr (a + (-1)))).toNat < mz from by omega)
theorem r_ins11 (hF : FS F) (hR : Rg I) {v0 v1 : Int} {V P : Nat → Int} {n : Nat} (ho : ORM I V P n) (hn : n ≤ 13) (hQ : ∀ (I' : pI), Rg I' → AR I' → (∀ k j, ¬ ((k = 235 ∧ (j = 27)) ∨ k = 245 ∨ k = 246) → I' k j = I k j) → (ORM I' (inF2 V (posF V v0 n) v0) (inF2 P (posF V v0 n) v1) (n + 1)) → Q none F I') : CallN G d kX12_adds [vr 235, vi v0, vi v1] NP F I Q := by
  refine CallN_in (fun hok hA => CallN_out ?_)
  have iv0 : -2147483648 ≤ v0 ∧ v0 < 2147483648 := hok (vi v0) (by simp)
  have iv1 : -2147483648 ≤ v1 ∧ v1 < 2147483648 := hok (vi v1) (by simp)
  have e0 := ho.1
  refine Call_wp (lv := [some (vr 235), some (vi v0), some (vi v1), none]) (by decide) ckX12_adds [5] rfl rfl ?_
  refine ⟨_, rfl, (by decide), ?_⟩
  have r1 : 0 ≤ (I 235 27) ∧ (I 235 27) ≤ 14 := Rg.f27 hR
  refine r_ins11_l hF hR ho hn (fun I' g1 g2 g3 hv hA' => hQ _ g1 hA' g2 g3) _ (I 235 27) I hR (fun _ _ _ => rfl) (show (0 : Int) ≤ (I 235 27) from by first | with_reducible assumption | omega | (simp only [wr, wl] at *; omega)) (show ((I 235 27) : Int) ≤ 13 from by first | with_reducible assumption | omega | (simp only [wr, wl] at *; omega)) (show (I 235 27) = (n : Int) from by first | omega | (simp only [wr, wl] at *; omega)) (show INS I 245 246 V P n v0 (Int.toNat (I 235 27)) from ⟨by have e := ho.1; omega, fun k hk => ho.2.2 k (by have e := ho.1; omega), fun k hk hk2 => absurd hk2 (by have e := ho.1; omega), by rw [show Int.toNat (I 235 27) = n from by have e := ho.1; omega]⟩) (Nat.lt_succ_self _)
end OR11
