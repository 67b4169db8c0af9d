/-! one time of an act, as the reference's cells tell it. Own work. -/
/-- the piece that is tried, as the reference keeps it -/
def RR9 (ld : Int → Int) (P : Nat → Int) (p : Nat) (I : pI) : Prop := (I 235 11 = p ∧ p ≤ 13) ∧ (1 ≤ I 236 (306 + 66 * p) ∧ I 236 (306 + 66 * p) ≤ 99) ∧ (2 ≤ I 236 (307 + 66 * p) ∧ I 236 (307 + 66 * p) ≤ 12) ∧ (∀ j : Nat, (j : Int) < I 236 (307 + 66 * p) → 0 ≤ I 236 (309 + 66 * p + j) ∧ I 236 (309 + 66 * p + j) ≤ 9999) ∧
  ((I 236 (304 + 66 * p) = 3 → P 5 = 1) ∧ (¬ I 236 (304 + 66 * p) = 3 → P 5 = 0) ∧ P 6 = 10 * (I 236 (307 + 66 * p) - 1)) ∧ (∀ x, ld x = fAns (I 236 (304 + 66 * p)) (I 236 (306 + 66 * p)) (I 236 (307 + 66 * p)) (fun j => I 236 (309 + 66 * p + j)) x) ∧
  (I 236 4 = P 0 ∧ I 236 5 = P 1 ∧ I 236 6 = P 2 ∧ I 236 7 = P 3 ∧ I 236 8 = P 4)
theorem RR9_f {ld : Int → Int} {P : Nat → Int} {p : Nat} {I J : pI} (h : RR9 ld P p I) (e : J 235 11 = I 235 11) (f : ∀ j, J 236 j = I 236 j) : RR9 ld P p J := by
  have g : J 236 = I 236 := funext f
  unfold RR9
  rw [e, g]
  exact h
theorem RR9_l {ld : Int → Int} {P : Nat → Int} {p : Nat} {I : pI} (h : RR9 ld P p I) : ∀ x, P 6 < x → ld x = 0 := fun x hx => by
  rw [h.2.2.2.2.2.1 x]
  unfold fAns
  rw [if_pos (by have := h.2.2.2.2.1.2.2; omega)]
/-- the same of a piece that isn't tried yet -/
def RR8 (ld : Int → Int) (P : Nat → Int) (p : Nat) (I : pI) : Prop := p ≤ 13 ∧ (1 ≤ I 236 (306 + 66 * p) ∧ I 236 (306 + 66 * p) ≤ 99) ∧ (2 ≤ I 236 (307 + 66 * p) ∧ I 236 (307 + 66 * p) ≤ 12) ∧ (∀ j : Nat, (j : Int) < I 236 (307 + 66 * p) → 0 ≤ I 236 (309 + 66 * p + j) ∧ I 236 (309 + 66 * p + j) ≤ 9999) ∧
  ((I 236 (304 + 66 * p) = 3 → P 5 = 1) ∧ (¬ I 236 (304 + 66 * p) = 3 → P 5 = 0) ∧ P 6 = 10 * (I 236 (307 + 66 * p) - 1)) ∧ (∀ x, ld x = fAns (I 236 (304 + 66 * p)) (I 236 (306 + 66 * p)) (I 236 (307 + 66 * p)) (fun j => I 236 (309 + 66 * p + j)) x) ∧
  (I 236 4 = P 0 ∧ I 236 5 = P 1 ∧ I 236 6 = P 2 ∧ I 236 7 = P 3 ∧ I 236 8 = P 4)
theorem RR8_9 {ld : Int → Int} {P : Nat → Int} {p : Nat} {I J : pI} (h : RR8 ld P p I) (e : J 235 11 = p) (f : ∀ j, J 236 j = I 236 j) : RR9 ld P p J := by
  have g : J 236 = I 236 := funext f
  unfold RR9
  rw [g]
  exact ⟨⟨e, h.1⟩, h.2⟩
/-- a program, as the reference keeps it -/
def PR8 (v : Nat) (I : pI) : Prop := (0 ≤ I 236 (41 + 36 * v) ∧ I 236 (41 + 36 * v) ≤ I 236 (40 + 36 * v) ∧ I 236 (40 + 36 * v) ≤ 17) ∧ ∀ k : Nat, (k : Int) < I 236 (40 + 36 * v) → (0 ≤ I 236 (42 + 36 * v + 2 * k) ∧ I 236 (42 + 36 * v + 2 * k) ≤ 5) ∧ I 236 (43 + 36 * v + 2 * k) ≤ 300000
def MR (il : Int) (S J : pI) : Prop := (J 235 12 = S 0 0 ∧ J 235 13 = S 0 1 ∧ J 235 14 = il ∧ J 235 15 = S 0 2 ∧ J 235 16 = S 0 3 ∧ J 235 17 = S 0 4 ∧ J 235 18 = S 0 5) ∧ (∀ i : Nat, (i : Int) < S 0 5 → J 243 i = S 2 i ∧ J 244 i = S 3 i) ∧ ∀ t : Nat, S 0 3 - 5 ≤ t → (t : Int) ≤ S 0 3 → 1 ≤ t → J 242 (t % 8) = S 1 t
def TKR (ld : Int → Int) (P : Nat → Int) (M J : pI) : Prop := (24 ≤ J 235 18 → M 235 18 = J 235 18 ∧ ∀ i, M 243 i = J 243 i ∧ M 244 i = J 244 i) ∧ (J 235 18 < 24 → M 235 18 = J 235 18 + 1 ∧ (∀ i : Nat, ¬ (i : Int) = J 235 18 → M 243 i = J 243 i ∧ M 244 i = J 244 i) ∧
  ∃ s v : Int, (P 4 = 0 → (J 235 13 = 0 → s = ld (J 235 12)) ∧ (¬ J 235 13 = 0 → s = 0)) ∧ (¬ P 4 = 0 → (J 235 16 + 1 - P 4 < 1 → s = 0) ∧ (¬ J 235 16 + 1 - P 4 < 1 → s = J 242 (Int.toNat (J 235 16 + 1 - P 4) % 8))) ∧
    (0 < P 3 ∧ Int.tmod (J 235 18 + 1) (P 3) = 0 → v = -1) ∧ (¬ (0 < P 3 ∧ Int.tmod (J 235 18 + 1) (P 3) = 0) → (P 2 < s → v = -2) ∧ (¬ P 2 < s → v = s)) ∧ ∀ i : Nat, (i : Int) = J 235 18 → M 243 i = J 235 12 ∧ M 244 i = v)
def TCK (ld : Int → Int) (P : Nat → Int) (N M : pI) : Prop := N 235 16 = M 235 16 + 1 ∧ (¬ M 235 13 = 0 ∨ P 6 < M 235 12 → N 235 13 = 1) ∧ (¬ (¬ M 235 13 = 0 ∨ P 6 < M 235 12) → N 235 13 = 0) ∧
  ∃ l : Int, (N 235 13 = 1 → l = 0) ∧ (¬ N 235 13 = 1 → l = ld (M 235 12)) ∧ N 242 (Int.toNat (M 235 16 + 1) % 8) = l ∧ (∀ j, ¬ j = Int.toNat (M 235 16 + 1) % 8 → N 242 j = M 242 j) ∧
    (M 235 14 = 0 → (N 235 13 = 1 → N 235 15 = 3) ∧ (¬ N 235 13 = 1 → (P 0 < l → N 235 15 = 1) ∧ (¬ P 0 < l → (P 1 < M 235 12 → N 235 15 = 2) ∧ (¬ P 1 < M 235 12 → N 235 15 = 0)))) ∧ (¬ M 235 14 = 0 → N 235 15 = M 235 15)
/-- the tick behind an act that changed the numbers as it should -/
theorem MR_t {ld : Int → Int} {P : Nat → Int} {il act : Int} {U J M N : pI} (hil : il = 0 ∨ il = 1) (hW : WS U) (hU : MR il U J)
    (e12 : M 235 12 = xxF P act U) (e13 : M 235 13 = U 0 1) (e14 : M 235 14 = il) (e15 : M 235 15 = U 0 2) (e16 : M 235 16 = U 0 3) (e17 : M 235 17 = hoF act U) (e18 : M 235 18 = nnF act U)
    (ea : ∀ i : Nat, (i : Int) < nnF act U → M 243 i = onc ld P il act U 2 i ∧ M 244 i = onc ld P il act U 3 i) (er : ∀ j, M 242 j = J 242 j)
    (f12 : N 235 12 = M 235 12) (f14 : N 235 14 = M 235 14) (f17 : N 235 17 = M 235 17) (f18 : N 235 18 = M 235 18) (fa : ∀ i, N 243 i = M 243 i ∧ N 244 i = M 244 i)
    (c : TCK ld P N M) : MR il (onc ld P il act U) N := by
  obtain ⟨c16, cb1, cb0, l, l1, l0, lr, lo, w0, w1⟩ := c
  have k3 := bF_c (P := P) (act := act) (S := U)
  have k6 := wyF_c (ld := ld) (P := P) (il := il) (act := act) (S := U)
  have k7 := ldF_c (ld := ld) (P := P) (act := act) (S := U)
  have hb : N 235 13 = bF P act U := by
    have u1 := hW.2.1
    by_cases q : U 0 1 = 1 ∨ P 6 < xxF P act U
    · rw [k3.1 q]; exact cb1 (by omega)
    · rw [k3.2 q]; exact cb0 (by omega)
  have hl : l = ldF ld P act U := by
    by_cases q : N 235 13 = 1
    · rw [l1 q]; exact (k7.1 (by omega)).symm
    · rw [l0 q, e12]; exact (k7.2 (by omega)).symm
  refine ⟨⟨f12.trans e12, hb, f14.trans e14, ?_, ?_, f17.trans e17, f18.trans e18⟩, fun i hi => ?_, fun t h1 h2 h3 => ?_⟩
  · show N 235 15 = wyF ld P il act U
    rcases hil with z | z
    · have y := w0 (by omega)
      have x := k6.2 (by omega)
      by_cases q : N 235 13 = 1
      · rw [y.1 q, x.1 (by omega)]
      · have y2 := y.2 q
        have x2 := x.2 (by omega)
        by_cases p : P 0 < l
        · rw [y2.1 p, x2.1 (by omega)]
        · have y3 := y2.2 p
          have x3 := x2.2 (by omega)
          by_cases o : P 1 < M 235 12
          · rw [y3.1 o, x3.1 (by omega)]
          · rw [y3.2 o, x3.2 (by omega)]
    · rw [w1 (by omega), k6.1 z, e15]
  · show N 235 16 = U 0 3 + 1
    omega
  · have z := ea i hi
    exact ⟨(fa i).1.trans z.1, (fa i).2.trans z.2⟩
  · have y : (onc ld P il act U) 0 3 = U 0 3 + 1 := rfl
    rw [y] at h1 h2
    show N 242 (t % 8) = if (t : Int) = U 0 3 + 1 then ldF ld P act U else U 1 t
    by_cases q : (t : Int) = U 0 3 + 1
    · rw [if_pos q, ← hl, ← lr]
      congr 2
      omega
    · rw [if_neg q, lo _ (by omega), er]
      exact hU.2.2 t (by omega) (by omega) h3
/-- an act that takes no reading -/
theorem MR_o {ld : Int → Int} {P : Nat → Int} {il act : Int} {U J M : pI} (hU : MR il U J) (ha : ¬ act = 4) (h18 : M 235 18 = J 235 18) (fa : ∀ i, M 243 i = J 243 i ∧ M 244 i = J 244 i) : M 235 18 = nnF act U ∧ ∀ i : Nat, (i : Int) < nnF act U → M 243 i = onc ld P il act U 2 i ∧ M 244 i = onc ld P il act U 3 i := by
  have k5 := (nnF_c (act := act) (S := U)).2 (by omega)
  refine ⟨by rw [k5, h18]; exact hU.1.2.2.2.2.2.2, fun i hi => ?_⟩
  rw [k5] at hi
  have z := hU.2.1 i hi
  show M 243 i = (if act = 4 ∧ U 0 5 < 24 ∧ (i : Int) = U 0 5 then xxF P act U else U 2 i) ∧ M 244 i = (if act = 4 ∧ U 0 5 < 24 ∧ (i : Int) = U 0 5 then vaF ld P act U else U 3 i)
  rw [if_neg (by omega), if_neg (by omega)]
  exact ⟨(fa i).1.trans z.1, (fa i).2.trans z.2⟩
/-- read -/
theorem MR_r {ld : Int → Int} {P : Nat → Int} {il : Int} {U J M : pI} (hU : MR il U J) (hW : WS U) (hl : ∀ x, P 6 < x → ld x = 0) (h4 : 0 ≤ P 4 ∧ P 4 ≤ 5) (k : TKR ld P M J) : M 235 18 = nnF 4 U ∧ ∀ i : Nat, (i : Int) < nnF 4 U → M 243 i = onc ld P il 4 U 2 i ∧ M 244 i = onc ld P il 4 U 3 i := by
  obtain ⟨⟨m12, m13, m14, m15, m16, m17, m18⟩, ma, mr⟩ := hU
  have w := hW.1
  have w2 := hW.2.1
  have w5 := hW.2.2.2
  have e1 : mvF P 4 (U 0 4) = 0 := (mvF_c (P := P) (act := 4) (h := U 0 4)).2.1 rfl
  have hx : xxF P 4 U = U 0 0 := by
    rw [(xxF_c (P := P) (act := 4) (S := U)).2 (by omega), e1]; omega
  by_cases n : U 0 5 < 24
  · obtain ⟨q1, q2, s, v, s0, s1, v1, v2, q3⟩ := k.2 (by omega)
    have hn := (nnF_c (act := 4) (S := U)).1 ⟨rfl, n⟩
    refine ⟨by omega, fun i hi => ?_⟩
    show M 243 i = (if (4 : Int) = 4 ∧ U 0 5 < 24 ∧ (i : Int) = U 0 5 then xxF P 4 U else U 2 i) ∧ M 244 i = (if (4 : Int) = 4 ∧ U 0 5 < 24 ∧ (i : Int) = U 0 5 then vaF ld P 4 U else U 3 i)
    by_cases e : (i : Int) = U 0 5
    · rw [if_pos ⟨rfl, n, e⟩, if_pos ⟨rfl, n, e⟩]
      have z := q3 i (by omega)
      refine ⟨z.1.trans (m12.trans hx.symm), z.2.trans ?_⟩
      have hs : s = seF ld P 4 U := by
        by_cases d : P 4 = 0
        · rw [(seF_c (ld := ld) (P := P) (act := 4) (S := U)).1 (by omega) d]
          have y := s0 d
          by_cases b : U 0 1 = 1
          · rw [(ldF_c (ld := ld) (P := P) (act := 4) (S := U)).1 ((bF_c (P := P) (act := 4) (S := U)).1 (Or.inl b))]; exact y.2 (by omega)
          · rw [y.1 (by omega), m12]
            by_cases o : P 6 < xxF P 4 U
            · rw [(ldF_c (ld := ld) (P := P) (act := 4) (S := U)).1 ((bF_c (P := P) (act := 4) (S := U)).1 (Or.inr o))]; exact hl _ (by omega)
            · rw [(ldF_c (ld := ld) (P := P) (act := 4) (S := U)).2 (by rw [(bF_c (P := P) (act := 4) (S := U)).2 (by omega)]; decide), hx]
        · have y := s1 d
          by_cases o : J 235 16 + 1 - P 4 < 1
          · rw [y.1 o]; exact ((seF_c (ld := ld) (P := P) (act := 4) (S := U)).2.2 (by omega)).symm
          · rw [y.2 o, (seF_c (ld := ld) (P := P) (act := 4) (S := U)).2.1 (by omega) d, m16]
            have g := mr (Int.toNat (U 0 3 + 1 - P 4)) (by omega) (by omega) (by omega)
            exact g
      have t : (0 < P 3 ∧ Int.tmod (J 235 18 + 1) (P 3) = 0) ↔ (0 < P 3 ∧ Int.tmod (U 0 5 + 1) (P 3) = 0) := by rw [m18]
      by_cases g : 0 < P 3 ∧ Int.tmod (U 0 5 + 1) (P 3) = 0
      · rw [(vaF_c (ld := ld) (P := P) (act := 4) (S := U)).1 g]; exact v1 (t.2 g)
      · have y := v2 (fun h => g (t.1 h))
        have x := (vaF_c (ld := ld) (P := P) (act := 4) (S := U)).2 g
        by_cases o : P 2 < s
        · rw [y.1 o, x.1 (by omega)]
        · rw [y.2 o, x.2 (by omega), hs]
    · rw [if_neg (fun h => e h.2.2), if_neg (fun h => e h.2.2)]
      have z := q2 i (by omega)
      have y := ma i (by omega)
      exact ⟨z.1.trans y.1, z.2.trans y.2⟩
  · obtain ⟨q1, q2⟩ := k.1 (by omega)
    have hn := (nnF_c (act := 4) (S := U)).2 (by omega)
    refine ⟨by omega, fun i hi => ?_⟩
    show M 243 i = (if (4 : Int) = 4 ∧ U 0 5 < 24 ∧ (i : Int) = U 0 5 then xxF P 4 U else U 2 i) ∧ M 244 i = (if (4 : Int) = 4 ∧ U 0 5 < 24 ∧ (i : Int) = U 0 5 then vaF ld P 4 U else U 3 i)
    rw [if_neg (fun h => n h.2.1), if_neg (fun h => n h.2.1)]
    have y := ma i (by omega)
    exact ⟨(q2 i).1.trans y.1, (q2 i).2.trans y.2⟩
