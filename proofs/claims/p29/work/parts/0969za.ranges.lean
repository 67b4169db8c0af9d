/-! the ranges of the readings that a run takes. Own work. -/
def RSR (S : pI) : Prop := (∀ t : Nat, -200000 ≤ S 1 t ∧ S 1 t ≤ 200000) ∧ ∀ i : Nat, (i : Int) < S 0 5 → (0 ≤ S 2 i ∧ S 2 i ≤ S 0 3) ∧ (-200000 ≤ S 3 i ∧ S 3 i ≤ 200000)
theorem RSR_o {ld : Int → Int} {P : Nat → Int} {il act : Int} {S : pI} (hl : ∀ x, -200000 ≤ ld x ∧ ld x ≤ 200000) (hW : WS S) (h : RSR S) : RSR (onc ld P il act S) := by
  obtain ⟨h1, h2⟩ := h
  have w1 : 0 ≤ xxF P act S ∧ xxF P act S ≤ S 0 3 + 1 := (WS_o (ld := ld) (P := P) (il := il) (act := act) hW).1
  have kl : -200000 ≤ ldF ld P act S ∧ ldF ld P act S ≤ 200000 := by
    have k := ldF_c (ld := ld) (P := P) (act := act) (S := S)
    by_cases q : bF P act S = 1
    · rw [k.1 q]; omega
    · rw [k.2 q]; exact hl _
  have ks : -200000 ≤ seF ld P act S ∧ seF ld P act S ≤ 200000 := by
    have k := seF_c (ld := ld) (P := P) (act := act) (S := S)
    by_cases q : P 4 < S 0 3 + 1
    · by_cases z : P 4 = 0
      · rw [k.1 q z]; exact kl
      · rw [k.2.1 q z]; exact h1 _
    · rw [k.2.2 q]; omega
  have kv : -200000 ≤ vaF ld P act S ∧ vaF ld P act S ≤ 200000 := by
    have k := vaF_c (ld := ld) (P := P) (act := act) (S := S)
    by_cases q : 0 < P 3 ∧ Int.tmod (S 0 5 + 1) (P 3) = 0
    · rw [k.1 q]; omega
    · by_cases z : P 2 < seF ld P act S
      · rw [(k.2 q).1 z]; omega
      · rw [(k.2 q).2 z]; exact ks
  have kn := nnF_c (act := act) (S := S)
  refine ⟨fun t => ?_, fun i hi => ?_⟩
  · show -200000 ≤ (if (t : Int) = S 0 3 + 1 then ldF ld P act S else S 1 t) ∧ (if (t : Int) = S 0 3 + 1 then ldF ld P act S else S 1 t) ≤ 200000
    by_cases q : (t : Int) = S 0 3 + 1
    · rw [if_pos q]; exact kl
    · rw [if_neg q]; exact h1 t
  · have hi2 : (i : Int) < nnF act S := hi
    show (0 ≤ (if act = 4 ∧ S 0 5 < 24 ∧ (i : Int) = S 0 5 then xxF P act S else S 2 i) ∧ (if act = 4 ∧ S 0 5 < 24 ∧ (i : Int) = S 0 5 then xxF P act S else S 2 i) ≤ S 0 3 + 1) ∧ (-200000 ≤ (if act = 4 ∧ S 0 5 < 24 ∧ (i : Int) = S 0 5 then vaF ld P act S else S 3 i) ∧ (if act = 4 ∧ S 0 5 < 24 ∧ (i : Int) = S 0 5 then vaF ld P act S else S 3 i) ≤ 200000)
    by_cases q : act = 4 ∧ S 0 5 < 24 ∧ (i : Int) = S 0 5
    · rw [if_pos q, if_pos q]; exact ⟨w1, kv⟩
    · rw [if_neg q, if_neg q]
      have hlt : (i : Int) < S 0 5 := by
        by_cases y : act = 4 ∧ S 0 5 < 24
        · have n := kn.1 y
          have : ¬ (i : Int) = S 0 5 := fun e => q ⟨y.1, y.2, e⟩
          omega
        · have n := kn.2 y
          omega
      have z := h2 i hlt
      exact ⟨⟨z.1.1, by omega⟩, z.2⟩
theorem RSR_p {ld : Int → Int} {P : Nat → Int} {il act amt : Int} (hl : ∀ x, -200000 ≤ ld x ∧ ld x ≤ 200000) : ∀ (m : Nat) (S : pI), WS S → RSR S → RSR (prtF ld P il act amt m S) := by
  intro m
  induction m with
  | zero => intro S _ g; exact g
  | succ m ih =>
    intro S h g
    by_cases q : (il = 1 ∨ S 0 2 = 0) ∧ wtF ld act amt S
    · rw [prtF_s q]; exact ih _ (WS_o h) (RSR_o hl h g)
    · rw [prtF_e (Or.inr q)]; exact g
theorem RSR_d {ld : Int → Int} {P : Nat → Int} {il act amt : Int} {S : pI} (hl : ∀ x, -200000 ≤ ld x ∧ ld x ≤ 200000) (h : WS S) (g : RSR S) : RSR (doP ld P il act amt S) := RSR_p hl _ S h g
theorem RSR_fs {ld : Int → Int} {P a m : Nat → Int} (hl : ∀ x, -200000 ≤ ld x ∧ ld x ≤ 200000) : ∀ (c k : Nat) (S : pI), WS S → RSR S → (∀ j, j < k + c → m j ≤ 300000) → WS (fsR ld P a m c k S).1 ∧ RSR (fsR ld P a m c k S).1 ∧ (fsR ld P a m c k S).1 0 3 ≤ S 0 3 + 300000 * (c : Int) := by
  intro c
  induction c with
  | zero => intro k S h g _; rw [fsR_e (Or.inl rfl)]; exact ⟨h, g, by show S 0 3 ≤ S 0 3 + 300000 * ((0 : Nat) : Int); omega⟩
  | succ c ih =>
    intro k S h g hm
    by_cases q : S 0 2 = 0
    · rw [fsR_s q]
      have d := WS_d (ld := ld) (P := P) (il := 0) (act := a k) (amt := m k) h (hm k (by omega))
      have z := ih (k + 1) _ d.1 (RSR_d hl h g) (fun j hj => hm j (by omega))
      have z2 := z.2.2
      have d2 := d.2
      exact ⟨z.1, z.2.1, by omega⟩
    · rw [fsR_e (Or.inr q)]; exact ⟨h, g, by show S 0 3 ≤ S 0 3 + 300000 * ((c + 1 : Nat) : Int); omega⟩
theorem RSR_ls {ld : Int → Int} {P a m : Nat → Int} (hl : ∀ x, -200000 ≤ ld x ∧ ld x ≤ 200000) : ∀ (c k : Nat) (S : pI), WS S → RSR S → (∀ j, j < k + c → m j ≤ 300000) → RSR (lsR ld P a m c k S) ∧ (lsR ld P a m c k S) 0 3 ≤ S 0 3 + 300000 * (c : Int) := by
  intro c
  induction c with
  | zero => intro k S h g _; exact ⟨g, by show S 0 3 ≤ S 0 3 + 300000 * ((0 : Nat) : Int); omega⟩
  | succ c ih =>
    intro k S h g hm
    have d := WS_d (ld := ld) (P := P) (il := 1) (act := a k) (amt := m k) h (hm k (by omega))
    have z := ih (k + 1) _ d.1 (RSR_d hl h g) (fun j hj => hm j (by omega))
    have z2 := z.2
    have d2 := d.2
    exact ⟨z.1, by show (lsR ld P a m c (k + 1) (doP ld P 1 (a k) (m k) S)) 0 3 ≤ _; omega⟩
theorem RSR_0 : RSR S0 := ⟨fun t => by unfold S0; omega, fun i hi => absurd hi (by unfold S0; omega)⟩
/-- what a run's readings are like, 17 parts at most -/
theorem RSR_rn {ld : Int → Int} {P a m : Nat → Int} {f c : Nat} (hl : ∀ x, -200000 ≤ ld x ∧ ld x ≤ 200000) (hm : ∀ j, j < c → m j ≤ 300000) (hf : f ≤ c) (hc : c ≤ 17) : ∀ i : Nat, (i : Int) < (rnF ld P a m f c) 0 5 → (0 ≤ (rnF ld P a m f c) 2 i ∧ (rnF ld P a m f c) 2 i ≤ 5100000) ∧ (-200000 ≤ (rnF ld P a m f c) 3 i ∧ (rnF ld P a m f c) 3 i ≤ 200000) := by
  have x := RSR_fs (P := P) (a := a) (m := m) hl f 0 S0 WS_0 RSR_0 (fun j hj => hm j (by omega))
  have y := RSR_ls (P := P) (a := a) (m := m) hl (c - f) f _ x.1 x.2.1 (fun j hj => hm j (by omega))
  have s0 : S0 0 3 = 0 := rfl
  have x3 := x.2.2
  have y3 := y.2
  intro i hi
  have z := y.1.2 i hi
  exact ⟨⟨z.1.1, by have z2 := z.1.2; show (lsR ld P a m (c - f) f (fsR ld P a m f 0 S0).1) 2 i ≤ 5100000; omega⟩, z.2⟩
