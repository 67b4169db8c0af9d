/-! one time of an act, as the class's cells tell it. Own work. -/
/-- the piece that is tried and the limits, as the class's machine keeps them -/
def CR9 (ld : Int → Int) (P : Nat → Int) (q : Nat) (I : pI) : Prop := (I 208 3 = P 0 ∧ I 208 4 = P 1 ∧ I 208 5 = P 2 ∧ I 208 6 = P 3 ∧ I 208 7 = P 4) ∧ ((0 ≤ P 4 ∧ P 4 ≤ 5) ∧ 0 ≤ P 3) ∧ ((0 ≤ I q 0 ∧ I q 0 ≤ 5) ∧ (1 ≤ I q 2 ∧ I q 2 ≤ 99) ∧ (2 ≤ I q 4 ∧ I q 4 ≤ 12)) ∧ (∀ j : Nat, (j : Int) < I q 4 → 0 ≤ I (q + 1) j ∧ I (q + 1) j ≤ 9999) ∧
  ((I q 0 = 3 → P 5 = 1) ∧ (¬ I q 0 = 3 → P 5 = 0) ∧ P 6 = 10 * (I q 4 - 1)) ∧ ∀ x, ld x = fAns (I q 0) (I q 2) (I q 4) (I (q + 1)) x
theorem CR9_f {ld : Int → Int} {P : Nat → Int} {q : Nat} {I J : pI} (h : CR9 ld P q I) (e : ∀ j, 3 ≤ j → j ≤ 7 → J 208 j = I 208 j) (f : ∀ j, J q j = I q j) (g : ∀ j, J (q + 1) j = I (q + 1) j) : CR9 ld P q J := by
  have f2 : J q = I q := funext f
  have g2 : J (q + 1) = I (q + 1) := funext g
  unfold CR9
  rw [f2, g2, e 3 (by decide) (by decide), e 4 (by decide) (by decide), e 5 (by decide) (by decide), e 6 (by decide) (by decide), e 7 (by decide) (by decide)]
  exact h
/-- the same ahead of a run -/
def CR8 (ld : Int → Int) (P : Nat → Int) (q : Nat) (I : pI) : Prop := (I 4 0 = P 0 ∧ I 4 1 = P 1 ∧ I 4 2 = P 2 ∧ I 4 3 = P 3 ∧ I 4 4 = P 4) ∧ ((0 ≤ P 4 ∧ P 4 ≤ 5) ∧ 0 ≤ P 3) ∧ ((0 ≤ I q 0 ∧ I q 0 ≤ 5) ∧ (1 ≤ I q 2 ∧ I q 2 ≤ 99) ∧ (2 ≤ I q 4 ∧ I q 4 ≤ 12)) ∧ (∀ j : Nat, (j : Int) < I q 4 → 0 ≤ I (q + 1) j ∧ I (q + 1) j ≤ 9999) ∧
  ((I q 0 = 3 → P 5 = 1) ∧ (¬ I q 0 = 3 → P 5 = 0) ∧ P 6 = 10 * (I q 4 - 1)) ∧ ∀ x, ld x = fAns (I q 0) (I q 2) (I q 4) (I (q + 1)) x
theorem CR8_9 {ld : Int → Int} {P : Nat → Int} {q : Nat} {I J : pI} (h : CR8 ld P q I) (e : J 208 3 = I 4 0 ∧ J 208 4 = I 4 1 ∧ J 208 5 = I 4 2 ∧ J 208 6 = I 4 3 ∧ J 208 7 = I 4 4) (f : ∀ j, J q j = I q j) (g : ∀ j, J (q + 1) j = I (q + 1) j) : CR9 ld P q J := by
  have f2 : J q = I q := funext f
  have g2 : J (q + 1) = I (q + 1) := funext g
  obtain ⟨e0, e1, e2, e3, e4⟩ := e
  unfold CR9
  rw [f2, g2, e0, e1, e2, e3, e4]
  exact h
def PC8 (g : Nat) (I : pI) : Prop := (0 ≤ I g 3 ∧ I g 3 ≤ I g 4 ∧ I g 4 ≤ 17) ∧ ∀ k : Nat, (k : Int) < I g 4 → (0 ≤ I (g + 1) k ∧ I (g + 1) k ≤ 5) ∧ I (g + 2) k ≤ 300000
theorem PC8_f {g : Nat} {I J : pI} (h : PC8 g I) (f : ∀ j, J g j = I g j) (f1 : ∀ j, J (g + 1) j = I (g + 1) j) (f2 : ∀ j, J (g + 2) j = I (g + 2) j) : PC8 g J := by
  unfold PC8
  rw [show J g = I g from funext f, show J (g + 1) = I (g + 1) from funext f1, show J (g + 2) = I (g + 2) from funext f2]
  exact h
def MC (il : Int) (S J : pI) : Prop := (J 208 8 = S 0 0 ∧ J 208 13 = S 0 1 ∧ J 208 14 = il ∧ J 208 11 = S 0 2 ∧ J 208 10 = S 0 3 ∧ J 208 9 = S 0 4 ∧ J 210 2 = S 0 5) ∧ (∀ i : Nat, (i : Int) < S 0 5 → J 211 i = S 2 i ∧ J 212 i = S 3 i) ∧ ∀ t : Nat, S 0 3 - 5 ≤ t → (t : Int) ≤ S 0 3 → 1 ≤ t → J 209 (t % 6) = S 1 t
def TKC (P : Nat → Int) (N M : pI) : Prop := (24 ≤ M 210 2 → N 210 2 = M 210 2 ∧ ∀ i, N 211 i = M 211 i ∧ N 212 i = M 212 i) ∧ (M 210 2 < 24 → N 210 2 = M 210 2 + 1 ∧ (∀ i : Nat, ¬ (i : Int) = M 210 2 → N 211 i = M 211 i ∧ N 212 i = M 212 i) ∧
  ∃ s v : Int, (P 4 < M 208 10 → s = M 209 (Int.toNat (M 208 10 - P 4) % 6)) ∧ (¬ P 4 < M 208 10 → s = 0) ∧ (0 < P 3 ∧ Int.tmod (M 210 2 + 1) (P 3) = 0 → v = -1) ∧ (¬ (0 < P 3 ∧ Int.tmod (M 210 2 + 1) (P 3) = 0) → (P 2 < s → v = -2) ∧ (¬ P 2 < s → v = s)) ∧ ∀ i : Nat, (i : Int) = M 210 2 → N 211 i = M 208 8 ∧ N 212 i = v)
def CAK (P : Nat → Int) (l : Int) (N M : pI) : Prop := (¬ M 208 13 = 0 → N 208 11 = 3) ∧ (M 208 13 = 0 → (P 0 < l → N 208 11 = 1) ∧ (¬ P 0 < l → (P 1 < M 208 8 → N 208 11 = 2) ∧ (¬ P 1 < M 208 8 → N 208 11 = M 208 11)))
theorem MC_n {ld : Int → Int} {P : Nat → Int} {il act : Int} {U J M K N : pI} (hil : il = 0 ∨ il = 1) (hW : WS U) (hU : MC il U J) (hy : il = 0 → U 0 2 = 0) (h4 : 0 ≤ P 4 ∧ P 4 ≤ 5)
    (e8 : M 208 8 = xxF P act U) (e13 : M 208 13 = bF P act U) (e14 : M 208 14 = il) (e11 : M 208 11 = U 0 2) (e10 : M 208 10 = U 0 3 + 1) (e9 : M 208 9 = hoF act U) (e2 : M 210 2 = U 0 5)
    (ea : ∀ i, M 211 i = J 211 i ∧ M 212 i = J 212 i) (lr : M 209 (Int.toNat (U 0 3 + 1) % 6) = ldF ld P act U) (lo : ∀ j, ¬ j = Int.toNat (U 0 3 + 1) % 6 → M 209 j = J 209 j)
    (kt : (act = 4 ∧ TKC P K M) ∨ (¬ act = 4 ∧ K 210 2 = M 210 2 ∧ ∀ i, K 211 i = M 211 i ∧ K 212 i = M 212 i)) (k8 : ∀ j, K 208 j = M 208 j) (k9 : ∀ j, K 209 j = M 209 j)
    (na_ : (il = 1 ∧ N 208 11 = K 208 11) ∨ (il = 0 ∧ CAK P (ldF ld P act U) N K)) (n8 : ∀ j, ¬ j = 11 → N 208 j = K 208 j) (n9 : ∀ j, N 209 j = K 209 j) (n2 : N 210 2 = K 210 2) (nr : ∀ i, N 211 i = K 211 i ∧ N 212 i = K 212 i) : MC il (onc ld P il act U) N := by
  obtain ⟨⟨m8, m13, m14, m11, m10, m9, m2⟩, ma, mr⟩ := hU
  have w := hW.1
  have w5 := hW.2.2.2
  have hb01 : bF P act U = 0 ∨ bF P act U = 1 := by
    by_cases q : U 0 1 = 1 ∨ P 6 < xxF P act U
    · exact Or.inr ((bF_c (P := P) (act := act) (S := U)).1 q)
    · exact Or.inl ((bF_c (P := P) (act := act) (S := U)).2 q)
  have hwy : N 208 11 = wyF ld P il act U := by
    rcases na_ with ⟨z, y⟩ | ⟨z, y⟩
    · rw [(wyF_c (ld := ld) (P := P) (il := il) (act := act) (S := U)).1 z, y, k8, e11]
    · have x := (wyF_c (ld := ld) (P := P) (il := il) (act := act) (S := U)).2 (by omega)
      have u := hy z
      have q8 := k8 8
      have q13 := k8 13
      have q11 := k8 11
      by_cases q : bF P act U = 1
      · rw [x.1 q]; exact y.1 (by omega)
      · have x2 := x.2 q
        have y2 := y.2 (by omega)
        by_cases p : P 0 < ldF ld P act U
        · rw [x2.1 p, y2.1 p]
        · have x3 := x2.2 p
          have y3 := y2.2 p
          by_cases o : P 1 < xxF P act U
          · rw [x3.1 o, y3.1 (by omega)]
          · rw [x3.2 o, y3.2 (by omega)]; omega
  have hread : K 210 2 = nnF act U ∧ ∀ i : Nat, (i : Int) < nnF act U → K 211 i = onc ld P il act U 2 i ∧ K 212 i = onc ld P il act U 3 i := by
    rcases kt with ⟨ha, k⟩ | ⟨ha, kn, ks⟩
    · subst ha
      by_cases n : U 0 5 < 24
      · obtain ⟨q1, q2, s, v, s1, s0, v1, v2, q3⟩ := k.2 (by omega)
        have hn := (nnF_c (act := 4) (S := U)).1 ⟨rfl, n⟩
        refine ⟨by omega, fun i hi => ?_⟩
        show K 211 i = (if (4 : Int) = 4 ∧ U 0 5 < 24 ∧ (i : Int) = U 0 5 then xxF P 4 U else U 2 i) ∧ K 212 i = (if (4 : Int) = 4 ∧ U 0 5 < 24 ∧ (i : Int) = U 0 5 then vaF ld P 4 U else U 3 i)
        by_cases e : (i : Int) = U 0 5
        · rw [if_pos ⟨rfl, n, e⟩, if_pos ⟨rfl, n, e⟩]
          have z := q3 i (by omega)
          refine ⟨z.1.trans e8, z.2.trans ?_⟩
          have hs : s = seF ld P 4 U := by
            by_cases o : P 4 < U 0 3 + 1
            · rw [s1 (by omega), e10]
              by_cases d : P 4 = 0
              · rw [(seF_c (ld := ld) (P := P) (act := 4) (S := U)).1 o d, ← lr]
                congr 2
                omega
              · rw [(seF_c (ld := ld) (P := P) (act := 4) (S := U)).2.1 o d, lo _ (by omega)]
                exact mr (Int.toNat (U 0 3 + 1 - P 4)) (by omega) (by omega) (by omega)
            · rw [s0 (by omega)]; exact ((seF_c (ld := ld) (P := P) (act := 4) (S := U)).2.2 o).symm
          have t : (0 < P 3 ∧ Int.tmod (M 210 2 + 1) (P 3) = 0) ↔ (0 < P 3 ∧ Int.tmod (U 0 5 + 1) (P 3) = 0) := by rw [e2]
          by_cases g : 0 < P 3 ∧ Int.tmod (U 0 5 + 1) (P 3) = 0
          · rw [(vaF_c (ld := ld) (P := P) (act := 4) (S := U)).1 g]; exact v1 (t.2 g)
          · have y := v2 (fun h => g (t.1 h))
            have x := (vaF_c (ld := ld) (P := P) (act := 4) (S := U)).2 g
            by_cases o : P 2 < s
            · rw [y.1 o, x.1 (by omega)]
            · rw [y.2 o, x.2 (by omega), hs]
        · rw [if_neg (fun h => e h.2.2), if_neg (fun h => e h.2.2)]
          have z := q2 i (by omega)
          have y := ma i (by omega)
          have x := ea i
          exact ⟨z.1.trans (x.1.trans y.1), z.2.trans (x.2.trans y.2)⟩
      · obtain ⟨q1, q2⟩ := k.1 (by omega)
        have hn := (nnF_c (act := 4) (S := U)).2 (by omega)
        refine ⟨by omega, fun i hi => ?_⟩
        show K 211 i = (if (4 : Int) = 4 ∧ U 0 5 < 24 ∧ (i : Int) = U 0 5 then xxF P 4 U else U 2 i) ∧ K 212 i = (if (4 : Int) = 4 ∧ U 0 5 < 24 ∧ (i : Int) = U 0 5 then vaF ld P 4 U else U 3 i)
        rw [if_neg (fun h => n h.2.1), if_neg (fun h => n h.2.1)]
        have y := ma i (by omega)
        have x := ea i
        exact ⟨(q2 i).1.trans (x.1.trans y.1), (q2 i).2.trans (x.2.trans y.2)⟩
    · have hn := (nnF_c (act := act) (S := U)).2 (by omega)
      refine ⟨by omega, fun i hi => ?_⟩
      show K 211 i = (if act = 4 ∧ U 0 5 < 24 ∧ (i : Int) = U 0 5 then xxF P act U else U 2 i) ∧ K 212 i = (if act = 4 ∧ U 0 5 < 24 ∧ (i : Int) = U 0 5 then vaF ld P act U else U 3 i)
      rw [if_neg (fun h => ha h.1), if_neg (fun h => ha h.1)]
      have y := ma i (by omega)
      have x := ea i
      exact ⟨(ks i).1.trans (x.1.trans y.1), (ks i).2.trans (x.2.trans y.2)⟩
  refine ⟨⟨?_, ?_, ?_, hwy, ?_, ?_, n2.trans hread.1⟩, fun i hi => ?_, fun t h1 h2 h3 => ?_⟩
  · rw [n8 8 (by decide), k8]; exact e8
  · rw [n8 13 (by decide), k8]; exact e13
  · rw [n8 14 (by decide), k8]; exact e14
  · rw [n8 10 (by decide), k8]; exact e10
  · rw [n8 9 (by decide), k8]; exact e9
  · have z := hread.2 i hi
    exact ⟨(nr i).1.trans z.1, (nr i).2.trans z.2⟩
  · have y : (onc ld P il act U) 0 3 = U 0 3 + 1 := rfl
    rw [y] at h1 h2
    show N 209 (t % 6) = if (t : Int) = U 0 3 + 1 then ldF ld P act U else U 1 t
    rw [n9, k9]
    by_cases q : (t : Int) = U 0 3 + 1
    · rw [if_pos q, ← lr]
      congr 2
      omega
    · rw [if_neg q, lo _ (by omega)]
      exact mr t (by omega) (by omega) h3
