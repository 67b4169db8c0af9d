/-! put, move, sheet: the rows' widths and lengths. Own work (scripts laid by wip/pm/gen34.py). -/
section PM
variable {G : pG} {d : Nat} {F : pF} {I : pI} {Q : Option pV → pF → pI → Prop}
def fx_put (s i bits len : Int) : Int := if ¬ (0 ≤ s ∧ s ≤ 3) then -1000001 else if bits = 0 then -1000002 else if ¬ (0 ≤ i ∧ i < len) then -1000001 else 1
def fx_move (s i o j n b1 l1 b2 l2 : Int) : Int := if ¬ (0 ≤ s ∧ s ≤ 3) ∨ ¬ (0 ≤ o ∧ o ≤ 3) then -1000001 else if b1 = 0 ∨ b2 = 0 then -1000002 else if b1 ≠ b2 then -1000005 else if n < 0 ∨ i < 0 ∨ j < 0 ∨ l1 < i + n ∨ l2 < j + n then -1000001 else n
abbrev VS (s b n : Int) : Prop := (0 ≤ s ∧ s ≤ 3) ∧ (b = 0 ∨ ((b = 8 ∨ b = 16 ∨ b = 32) ∧ 0 ≤ n ∧ n ≤ 24))
/-- widths and lengths of the class's rows and of the reference's -/
def LH (I : pI) : Prop := ∀ s : Nat, s < 4 → I (227 + 2 * s) 0 = I 250 s ∧ I (227 + 2 * s) 1 = I 251 s
theorem LH_of {I : pI} (h : (List.range 4).all (fun s => I (227 + 2 * s) 0 == I 250 s && I (227 + 2 * s) 1 == I 251 s) = true) : LH I := fun s hs => by
  have a := List.all_eq_true.mp h s (List.mem_range.mpr hs)
  simpa using a
theorem LH_f {I J : pI} (h : LH I) (h1 : ∀ s, s < 4 → J (227 + 2 * s) 0 = I (227 + 2 * s) 0 ∧ J (227 + 2 * s) 1 = I (227 + 2 * s) 1) (h2 : ∀ s, s < 4 → J 250 s = I 250 s ∧ J 251 s = I 251 s) : LH J := fun s hs =>
  ⟨(h1 s hs).1.trans ((h s hs).1.trans (h2 s hs).1.symm), (h1 s hs).2.trans ((h s hs).2.trans (h2 s hs).2.symm)⟩
theorem LH_s {I J K : pI} {a b c : Int} (h : LH I) (h1 : ∀ s : Nat, s < 4 → J (227 + 2 * s) 0 = (if VS a b c ∧ (s : Int) = a then b else I (227 + 2 * s) 0) ∧ J (227 + 2 * s) 1 = (if VS a b c ∧ (s : Int) = a then (if b = 0 then 0 else c) else I (227 + 2 * s) 1))
    (h2 : ∀ s : Nat, s < 4 → K 250 s = (if VS a b c ∧ (s : Int) = a then b else J 250 s) ∧ K 251 s = (if VS a b c ∧ (s : Int) = a then (if b = 0 then 0 else c) else J 251 s))
    (h3 : ∀ s, s < 4 → K (227 + 2 * s) 0 = J (227 + 2 * s) 0 ∧ K (227 + 2 * s) 1 = J (227 + 2 * s) 1) (h4 : ∀ s, s < 4 → J 250 s = I 250 s ∧ J 251 s = I 251 s) : LH K := fun s hs => by
  rw [(h3 s hs).1, (h3 s hs).2, (h1 s hs).1, (h1 s hs).2, (h2 s hs).1, (h2 s hs).2, (h4 s hs).1, (h4 s hs).2, (h s hs).1, (h s hs).2]
  exact ⟨rfl, rfl⟩
def fx_sheet (s b n : Int) : Int := if ¬ (0 ≤ s ∧ s ≤ 3) ∨ (b ≠ 0 ∧ b ≠ 8 ∧ b ≠ 16 ∧ b ≠ 32) then -1000001 else if b ≠ 0 ∧ n < 0 then -1000003 else if b ≠ 0 ∧ 24 < n then -1000001 else 1
end PM
