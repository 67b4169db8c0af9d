/-! a run of a program on a piece, told by numbers that both sides keep. Own work. -/
/-- the load of the reference's piece, its numbers and the limits -/
def ldR (I : pI) (p : Nat) : Int → Int := fun x => fAns (I 236 (304 + 66 * p)) (I 236 (306 + 66 * p)) (I 236 (307 + 66 * p)) (fun j => I 236 (309 + 66 * p + j)) x
def pmR (I : pI) (p : Nat) : Nat → Int := fun k => match k with
  | 0 => I 236 4
  | 1 => I 236 5
  | 2 => I 236 6
  | 3 => I 236 7
  | 4 => I 236 8
  | 5 => if I 236 (304 + 66 * p) = 3 then 1 else 0
  | _ => 10 * (I 236 (307 + 66 * p) - 1)
/-- the class's -/
def ldC (I : pI) (q : Nat) : Int → Int := fun x => fAns (I q 0) (I q 2) (I q 4) (I (q + 1)) x
def pmC (I : pI) (q : Nat) : Nat → Int := fun k => match k with
  | 0 => I 4 0
  | 1 => I 4 1
  | 2 => I 4 2
  | 3 => I 4 3
  | 4 => I 4 4
  | 5 => if I q 0 = 3 then 1 else 0
  | _ => 10 * (I q 4 - 1)
theorem RR8_of {I : pI} {p : Nat} (hp : p ≤ 13) (h : RRG I p) : RR8 (ldR I p) (pmR I p) p I := by
  refine ⟨hp, h.1, h.2.1, h.2.2, ⟨fun e => if_pos e, fun e => if_neg e, rfl⟩, fun x => rfl, rfl, rfl, rfl, rfl, rfl⟩
theorem CR8_of {I : pI} {q : Nat} (h : PRG I q) (h3 : 0 ≤ I 4 3) (h4 : 0 ≤ I 4 4 ∧ I 4 4 ≤ 5) : CR8 (ldC I q) (pmC I q) q I := by
  refine ⟨⟨rfl, rfl, rfl, rfl, rfl⟩, ⟨h4, h3⟩, ⟨h.1, h.2.1, h.2.2.1⟩, h.2.2.2, ⟨fun e => if_pos e, fun e => if_neg e, rfl⟩, fun x => rfl⟩
theorem MR_f {il : Int} {S I J : pI} (h : MR il S I) (e : ∀ j, 12 ≤ j → j ≤ 18 → J 235 j = I 235 j) (e2 : ∀ j, J 242 j = I 242 j) (e3 : ∀ j, J 243 j = I 243 j) (e4 : ∀ j, J 244 j = I 244 j) : MR il S J := by
  obtain ⟨⟨a, b, c, d, f, g, k⟩, y, z⟩ := h
  refine ⟨⟨(e 12 (by decide) (by decide)).trans a, (e 13 (by decide) (by decide)).trans b, (e 14 (by decide) (by decide)).trans c, (e 15 (by decide) (by decide)).trans d, (e 16 (by decide) (by decide)).trans f, (e 17 (by decide) (by decide)).trans g, (e 18 (by decide) (by decide)).trans k⟩, fun i hi => ?_, fun t h1 h2 h3 => (e2 _).trans (z t h1 h2 h3)⟩
  rw [e3, e4]
  exact y i hi
theorem WS_l {ld : Int → Int} {P a m : Nat → Int} : ∀ (c k : Nat) (S : pI), WS S → WS (lsR ld P a m c k S) := by
  intro c
  induction c with
  | zero => intro k S h; exact h
  | succ c ih => intro k S h; exact ih _ _ (WS_p _ _ h).1
theorem WS_fs {ld : Int → Int} {P a m : Nat → Int} : ∀ (c k : Nat) (S : pI), WS S → WS (fsR ld P a m c k S).1 := by
  intro c
  induction c with
  | zero => intro k S h; exact h
  | succ c ih =>
    intro k S h
    by_cases e : S 0 2 = 0
    · rw [fsR_s e]; exact ih _ _ (WS_p _ _ h).1
    · rw [fsR_e (Or.inr e)]; exact h
theorem WS_r {ld : Int → Int} {P a m : Nat → Int} {f c : Nat} : WS (rnF ld P a m f c) := WS_l _ _ _ (WS_fs _ _ _ WS_0)
/-- parts alike: runs alike -/
theorem lsR_c {ld : Int → Int} {P a m a' m' : Nat → Int} : ∀ (c k : Nat) (S : pI), (∀ j, k ≤ j → j < k + c → a j = a' j ∧ m j = m' j) → lsR ld P a m c k S = lsR ld P a' m' c k S := by
  intro c
  induction c with
  | zero => intro k S _; rfl
  | succ c ih =>
    intro k S h
    have z := h k (by omega) (by omega)
    show lsR ld P a m c (k + 1) (doP ld P 1 (a k) (m k) S) = lsR ld P a' m' c (k + 1) (doP ld P 1 (a' k) (m' k) S)
    rw [z.1, z.2]
    exact ih _ _ (fun j h1 h2 => h j (by omega) (by omega))
theorem fsR_c {ld : Int → Int} {P a m a' m' : Nat → Int} : ∀ (c k : Nat) (S : pI), (∀ j, k ≤ j → j < k + c → a j = a' j ∧ m j = m' j) → fsR ld P a m c k S = fsR ld P a' m' c k S := by
  intro c
  induction c with
  | zero => intro k S _; rfl
  | succ c ih =>
    intro k S h
    have z := h k (by omega) (by omega)
    by_cases e : S 0 2 = 0
    · rw [fsR_s e, fsR_s e, z.1, z.2]
      exact ih _ _ (fun j h1 h2 => h j (by omega) (by omega))
    · rw [fsR_e (Or.inr e), fsR_e (Or.inr e)]
theorem rnF_c {ld : Int → Int} {P a m a' m' : Nat → Int} {f c : Nat} (hf : f ≤ c) (h : ∀ j, j < c → a j = a' j ∧ m j = m' j) : rnF ld P a m f c = rnF ld P a' m' f c ∧ enF ld P a m f = enF ld P a' m' f := by
  unfold rnF enF
  rw [fsR_c (a := a) (m := m) (a' := a') (m' := m') f 0 S0 (fun j h1 h2 => h j (by omega))]
  exact ⟨lsR_c _ _ _ (fun j h1 h2 => h j (by omega)), rfl⟩
