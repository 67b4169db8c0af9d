/-! a run, step by step: what both sides' machines do. A state: row 0 the numbers (0 the stretch, 1 broken, 2 why, 3 ticks, 4 holds, 5 readings taken), row 1 the loads by ticks, rows 2 and 3 the readings. P: 0 the limit, 1 the long one, 2 the meter's top, 3 each, 4 the delay, 5 whether it is slow, 6 the last stretch. Own work. -/
def mvF (P : Nat → Int) (act h : Int) : Int := if act = 3 then -1 else if act = 4 then 0 else if act = 2 then (if P 5 = 1 ∧ (h + 1) % 5 = 0 then 1 else 0) else 1
def xxF (P : Nat → Int) (act : Int) (S : pI) : Int := if S 0 0 + mvF P act (S 0 4) < 0 then 0 else S 0 0 + mvF P act (S 0 4)
def bF (P : Nat → Int) (act : Int) (S : pI) : Int := if S 0 1 = 1 ∨ P 6 < xxF P act S then 1 else 0
def ldF (ld : Int → Int) (P : Nat → Int) (act : Int) (S : pI) : Int := if bF P act S = 1 then 0 else ld (xxF P act S)
def hoF (act : Int) (S : pI) : Int := if act = 2 then S 0 4 + 1 else S 0 4
def wyF (ld : Int → Int) (P : Nat → Int) (il act : Int) (S : pI) : Int := if il = 1 then S 0 2 else if bF P act S = 1 then 3 else if P 0 < ldF ld P act S then 1 else if P 1 < xxF P act S then 2 else 0
def seF (ld : Int → Int) (P : Nat → Int) (act : Int) (S : pI) : Int := if P 4 < S 0 3 + 1 then (if P 4 = 0 then ldF ld P act S else S 1 (S 0 3 + 1 - P 4).toNat) else 0
def vaF (ld : Int → Int) (P : Nat → Int) (act : Int) (S : pI) : Int := if 0 < P 3 ∧ Int.tmod (S 0 5 + 1) (P 3) = 0 then -1 else if P 2 < seF ld P act S then -2 else seF ld P act S
def nnF (act : Int) (S : pI) : Int := if act = 4 ∧ S 0 5 < 24 then S 0 5 + 1 else S 0 5
/-- one time of an act -/
def onc (ld : Int → Int) (P : Nat → Int) (il act : Int) (S : pI) : pI := fun k j =>
  match k with
  | 0 => (match j with | 0 => xxF P act S | 1 => bF P act S | 2 => wyF ld P il act S | 3 => S 0 3 + 1 | 4 => hoF act S | _ => nnF act S)
  | 1 => if (j : Int) = S 0 3 + 1 then ldF ld P act S else S 1 j
  | 2 => if act = 4 ∧ S 0 5 < 24 ∧ (j : Int) = S 0 5 then xxF P act S else S 2 j
  | _ => if act = 4 ∧ S 0 5 < 24 ∧ (j : Int) = S 0 5 then vaF ld P act S else S 3 j
/-- whether an act is done once more -/
def wtF (ld : Int → Int) (act amt : Int) (S : pI) : Prop := (act = 1 → (if S 0 1 = 1 then 0 else ld (S 0 0)) < amt) ∧ (act = 5 → S 0 0 < amt)
noncomputable def prtF (ld : Int → Int) (P : Nat → Int) (il act amt : Int) : Nat → pI → pI
  | 0, S => S
  | m + 1, S => @ite pI ((il = 1 ∨ S 0 2 = 0) ∧ wtF ld act amt S) (Classical.propDecidable _) (prtF ld P il act amt m (onc ld P il act S)) S
def tmF (act amt : Int) : Int := if act = 4 then 1 else if act = 1 ∨ act = 5 then 300 else amt
noncomputable def doP (ld : Int → Int) (P : Nat → Int) (il act amt : Int) (S : pI) : pI := prtF ld P il act amt (tmF act amt).toNat S
/-- parts, until the reason to stop: the state, and how many were begun -/
noncomputable def fsR (ld : Int → Int) (P a m : Nat → Int) : Nat → Nat → pI → pI × Nat
  | 0, k, S => (S, k)
  | c + 1, k, S => if S 0 2 = 0 then fsR ld P a m c (k + 1) (doP ld P 0 (a k) (m k) S) else (S, k)
noncomputable def lsR (ld : Int → Int) (P a m : Nat → Int) : Nat → Nat → pI → pI
  | 0, _, S => S
  | c + 1, k, S => lsR ld P a m c (k + 1) (doP ld P 1 (a k) (m k) S)
def S0 : pI := fun _ _ => 0
/-- a run of f parts, and last ones, c all together -/
noncomputable def rnF (ld : Int → Int) (P a m : Nat → Int) (f c : Nat) : pI := lsR ld P a m (c - f) f (fsR ld P a m f 0 S0).1
noncomputable def enF (ld : Int → Int) (P a m : Nat → Int) (f : Nat) : Int := if (fsR ld P a m f 0 S0).1 0 2 = 0 then ((fsR ld P a m f 0 S0).2 : Int) else ((fsR ld P a m f 0 S0).2 : Int) - 1
theorem prtF_s {ld : Int → Int} {P : Nat → Int} {il act amt : Int} {m : Nat} {S : pI} (h : (il = 1 ∨ S 0 2 = 0) ∧ wtF ld act amt S) : prtF ld P il act amt (m + 1) S = prtF ld P il act amt m (onc ld P il act S) := if_pos h
theorem prtF_e {ld : Int → Int} {P : Nat → Int} {il act amt : Int} {m : Nat} {S : pI} (h : m = 0 ∨ ¬ ((il = 1 ∨ S 0 2 = 0) ∧ wtF ld act amt S)) : prtF ld P il act amt m S = S := by
  cases m with
  | zero => rfl
  | succ m => exact if_neg (h.resolve_left (by omega))
theorem fsR_s {ld : Int → Int} {P a m : Nat → Int} {c k : Nat} {S : pI} (h : S 0 2 = 0) : fsR ld P a m (c + 1) k S = fsR ld P a m c (k + 1) (doP ld P 0 (a k) (m k) S) := if_pos h
theorem fsR_e {ld : Int → Int} {P a m : Nat → Int} {c k : Nat} {S : pI} (h : c = 0 ∨ ¬ S 0 2 = 0) : fsR ld P a m c k S = (S, k) := by
  cases c with
  | zero => rfl
  | succ c => exact if_neg (h.resolve_left (by omega))
/-- what omega is told of one time -/
theorem mvF_c {P : Nat → Int} {act h : Int} : (act = 3 → mvF P act h = -1) ∧ (act = 4 → mvF P act h = 0) ∧ (act = 2 → P 5 = 1 → (h + 1) % 5 = 0 → mvF P act h = 1) ∧ (act = 2 → ¬ (P 5 = 1 ∧ (h + 1) % 5 = 0) → mvF P act h = 0) ∧ (¬ act = 3 → ¬ act = 4 → ¬ act = 2 → mvF P act h = 1) ∧ (-1 ≤ mvF P act h ∧ mvF P act h ≤ 1) := by
  unfold mvF
  refine ⟨fun a => if_pos a, fun a => ?_, fun a b c => ?_, fun a b => ?_, fun a b c => ?_, ?_⟩
  · rw [if_neg (by omega), if_pos a]
  · rw [if_neg (by omega), if_neg (by omega), if_pos a, if_pos ⟨b, c⟩]
  · rw [if_neg (by omega), if_neg (by omega), if_pos a, if_neg b]
  · rw [if_neg a, if_neg b, if_neg c]
  · (repeat' split) <;> omega
theorem xxF_c {P : Nat → Int} {act : Int} {S : pI} : (S 0 0 + mvF P act (S 0 4) < 0 → xxF P act S = 0) ∧ (¬ S 0 0 + mvF P act (S 0 4) < 0 → xxF P act S = S 0 0 + mvF P act (S 0 4)) := by
  unfold xxF
  exact ⟨fun h => if_pos h, fun h => if_neg h⟩
theorem bF_c {P : Nat → Int} {act : Int} {S : pI} : (S 0 1 = 1 ∨ P 6 < xxF P act S → bF P act S = 1) ∧ (¬ (S 0 1 = 1 ∨ P 6 < xxF P act S) → bF P act S = 0) := by
  unfold bF
  exact ⟨fun h => if_pos h, fun h => if_neg h⟩
theorem ldF_c {ld : Int → Int} {P : Nat → Int} {act : Int} {S : pI} : (bF P act S = 1 → ldF ld P act S = 0) ∧ (¬ bF P act S = 1 → ldF ld P act S = ld (xxF P act S)) := by
  unfold ldF
  exact ⟨fun h => if_pos h, fun h => if_neg h⟩
theorem hoF_c {act : Int} {S : pI} : (act = 2 → hoF act S = S 0 4 + 1) ∧ (¬ act = 2 → hoF act S = S 0 4) := by
  unfold hoF
  exact ⟨fun h => if_pos h, fun h => if_neg h⟩
theorem wyF_c {ld : Int → Int} {P : Nat → Int} {il act : Int} {S : pI} : (il = 1 → wyF ld P il act S = S 0 2) ∧ (¬ il = 1 → (bF P act S = 1 → wyF ld P il act S = 3) ∧ (¬ bF P act S = 1 → (P 0 < ldF ld P act S → wyF ld P il act S = 1) ∧ (¬ P 0 < ldF ld P act S → (P 1 < xxF P act S → wyF ld P il act S = 2) ∧ (¬ P 1 < xxF P act S → wyF ld P il act S = 0)))) := by
  unfold wyF
  refine ⟨fun h => if_pos h, fun h => ⟨fun a => ?_, fun a => ⟨fun b => ?_, fun b => ⟨fun c => ?_, fun c => ?_⟩⟩⟩⟩
  · rw [if_neg h, if_pos a]
  · rw [if_neg h, if_neg a, if_pos b]
  · rw [if_neg h, if_neg a, if_neg b, if_pos c]
  · rw [if_neg h, if_neg a, if_neg b, if_neg c]
theorem seF_c {ld : Int → Int} {P : Nat → Int} {act : Int} {S : pI} : (P 4 < S 0 3 + 1 → P 4 = 0 → seF ld P act S = ldF ld P act S) ∧ (P 4 < S 0 3 + 1 → ¬ P 4 = 0 → seF ld P act S = S 1 (S 0 3 + 1 - P 4).toNat) ∧ (¬ P 4 < S 0 3 + 1 → seF ld P act S = 0) := by
  unfold seF
  refine ⟨fun a b => ?_, fun a b => ?_, fun a => if_neg a⟩
  · rw [if_pos a, if_pos b]
  · rw [if_pos a, if_neg b]
theorem vaF_c {ld : Int → Int} {P : Nat → Int} {act : Int} {S : pI} : (0 < P 3 ∧ Int.tmod (S 0 5 + 1) (P 3) = 0 → vaF ld P act S = -1) ∧ (¬ (0 < P 3 ∧ Int.tmod (S 0 5 + 1) (P 3) = 0) → (P 2 < seF ld P act S → vaF ld P act S = -2) ∧ (¬ P 2 < seF ld P act S → vaF ld P act S = seF ld P act S)) := by
  unfold vaF
  refine ⟨fun h => if_pos h, fun h => ⟨fun a => ?_, fun a => ?_⟩⟩
  · rw [if_neg h, if_pos a]
  · rw [if_neg h, if_neg a]
theorem nnF_c {act : Int} {S : pI} : (act = 4 ∧ S 0 5 < 24 → nnF act S = S 0 5 + 1) ∧ (¬ (act = 4 ∧ S 0 5 < 24) → nnF act S = S 0 5) := by
  unfold nnF
  exact ⟨fun h => if_pos h, fun h => if_neg h⟩
/-- the state is one that a run comes to, T ticks at most -/
def WS (S : pI) : Prop := (0 ≤ S 0 0 ∧ S 0 0 ≤ S 0 3) ∧ (S 0 1 = 0 ∨ S 0 1 = 1) ∧ (0 ≤ S 0 4 ∧ S 0 4 ≤ S 0 3) ∧ (0 ≤ S 0 5 ∧ S 0 5 ≤ 24)
theorem WS_o {ld : Int → Int} {P : Nat → Int} {il act : Int} {S : pI} (h : WS S) : WS (onc ld P il act S) := by
  obtain ⟨a, b, c, d⟩ := h
  have k1 := mvF_c (P := P) (act := act) (h := S 0 4)
  have k2 := xxF_c (P := P) (act := act) (S := S)
  have k3 := bF_c (P := P) (act := act) (S := S)
  have k4 := hoF_c (act := act) (S := S)
  have k5 := nnF_c (act := act) (S := S)
  refine ⟨?_, ?_, ?_, ?_⟩
  · show 0 ≤ xxF P act S ∧ xxF P act S ≤ S 0 3 + 1
    omega
  · show bF P act S = 0 ∨ bF P act S = 1
    by_cases q : S 0 1 = 1 ∨ P 6 < xxF P act S
    · exact Or.inr (k3.1 q)
    · exact Or.inl (k3.2 q)
  · show 0 ≤ hoF act S ∧ hoF act S ≤ S 0 3 + 1
    omega
  · show 0 ≤ nnF act S ∧ nnF act S ≤ 24
    omega
theorem WS_0 : WS S0 := by unfold WS S0; omega
theorem WS_p {ld : Int → Int} {P : Nat → Int} {il act amt : Int} : ∀ (m : Nat) (S : pI), WS S → WS (prtF ld P il act amt m S) ∧ (prtF ld P il act amt m S) 0 3 ≤ S 0 3 + m := by
  intro m
  induction m with
  | zero => intro S h; exact ⟨h, by show S 0 3 ≤ S 0 3 + 0; omega⟩
  | succ m ih =>
    intro S h
    by_cases q : (il = 1 ∨ S 0 2 = 0) ∧ wtF ld act amt S
    · rw [prtF_s q]
      have z := ih (onc ld P il act S) (WS_o h)
      refine ⟨z.1, ?_⟩
      have y := z.2
      have e : (onc ld P il act S) 0 3 = S 0 3 + 1 := rfl
      rw [e] at y
      omega
    · rw [prtF_e (Or.inr q)]
      exact ⟨h, by omega⟩
theorem WS_d {ld : Int → Int} {P : Nat → Int} {il act amt : Int} {S : pI} (h : WS S) (ha : amt ≤ 300000) : WS (doP ld P il act amt S) ∧ (doP ld P il act amt S) 0 3 ≤ S 0 3 + 300000 := by
  have z := WS_p (ld := ld) (P := P) (il := il) (act := act) (amt := amt) (tmF act amt).toNat S h
  have y : (tmF act amt).toNat ≤ 300000 := by
    unfold tmF
    (repeat' split) <;> omega
  exact ⟨z.1, by have := z.2; unfold doP; omega⟩
