/-! a text's words. Own work. -/
/-- a text: its bytes, those that tell nothing told as 0 -/
def clp (x : Int) : Int := if 32 ≤ x ∧ x ≤ 122 then x else 0
def TXT (t : Int → Int) (n : Int) (f : Nat → Int) : Prop := (0 ≤ n ∧ n ≤ 64) ∧ ∀ i : Int, t i = if 0 ≤ i ∧ i < n then clp (f i.toNat) else 0
theorem TXT_b {t : Int → Int} {n : Int} {f : Nat → Int} (h : TXT t n f) (i : Int) : (0 ≤ i ∧ i < n → (32 ≤ f i.toNat ∧ f i.toNat ≤ 122 → t i = f i.toNat) ∧ (¬ (32 ≤ f i.toNat ∧ f i.toNat ≤ 122) → t i = 0)) ∧ (¬ (0 ≤ i ∧ i < n) → t i = 0) := by
  have e := h.2 i
  refine ⟨fun g => ?_, fun g => by rw [if_neg g] at e; exact e⟩
  rw [if_pos g] at e
  unfold clp at e
  exact ⟨fun q => by rw [if_pos q] at e; exact e, fun q => by rw [if_neg q] at e; exact e⟩
theorem TXT_z {t : Int → Int} {n : Int} {f : Nat → Int} (h : TXT t n f) (i : Int) : ¬ (0 ≤ i ∧ i < n) → t i = 0 := (TXT_b h i).2
theorem TXT_f {t : Int → Int} {n : Int} {f g : Nat → Int} (h : TXT t n f) (e : ∀ j, g j = f j) : TXT t n g := by rw [show g = f from funext e]; exact h
def IsF (t : Int → Int) (n i a : Int) : Prop := (i ≤ a ∧ a ≤ n) ∧ (∀ k : Int, i ≤ k → k < a → t k = 32) ∧ ¬ t a = 32
def IsT (t : Int → Int) (n a b : Int) : Prop := (a ≤ b ∧ b ≤ n ∧ (a < n → a < b)) ∧
  ((97 ≤ t a ∧ t a ≤ 122) → (∀ k : Int, a ≤ k → k < b → 97 ≤ t k ∧ t k ≤ 122) ∧ ¬ (97 ≤ t b ∧ t b ≤ 122)) ∧
  ((48 ≤ t a ∧ t a ≤ 57) → (∀ k : Int, a ≤ k → k < b → 48 ≤ t k ∧ t k ≤ 57) ∧ ¬ (48 ≤ t b ∧ t b ≤ 57)) ∧
  (¬ (97 ≤ t a ∧ t a ≤ 122) → ¬ (48 ≤ t a ∧ t a ≤ 57) → b = if a < n then a + 1 else n)
def Tok (t : Int → Int) (n i a b : Int) : Prop := IsF t n i a ∧ IsT t n a b
theorem IsF_u {t : Int → Int} {n i a c : Int} (h : IsF t n i a) (g : IsF t n i c) : a = c := by
  by_cases e : a < c
  · exact absurd (g.2.1 a h.1.1 e) h.2.2
  · by_cases e2 : c < a
    · exact absurd (h.2.1 c g.1.1 e2) g.2.2
    · omega
theorem IsT_u {t : Int → Int} {n a b c : Int} (h : IsT t n a b) (g : IsT t n a c) : b = c := by
  by_cases l : 97 ≤ t a ∧ t a ≤ 122
  · have h1 := h.2.1 l
    have g1 := g.2.1 l
    by_cases e : b < c
    · exact absurd (g1.1 b h.1.1 e) h1.2
    · by_cases e2 : c < b
      · exact absurd (h1.1 c g.1.1 e2) g1.2
      · omega
  · by_cases d : 48 ≤ t a ∧ t a ≤ 57
    · have h1 := h.2.2.1 d
      have g1 := g.2.2.1 d
      by_cases e : b < c
      · exact absurd (g1.1 b h.1.1 e) h1.2
      · by_cases e2 : c < b
        · exact absurd (h1.1 c g.1.1 e2) g1.2
        · omega
    · rw [h.2.2.2 l d, g.2.2.2 l d]
theorem Tok_u {t : Int → Int} {n i a b a' b' : Int} (h : Tok t n i a b) (g : Tok t n i a' b') : a = a' ∧ b = b' := by
  have e := IsF_u h.1 g.1
  subst e
  exact ⟨rfl, IsT_u h.2 g.2⟩
noncomputable def nx (t : Int → Int) (n i : Int) : Int × Int := Classical.epsilon (fun p : Int × Int => Tok t n i p.1 p.2)
noncomputable def na (t : Int → Int) (n i : Int) : Int := (nx t n i).1
noncomputable def nb (t : Int → Int) (n i : Int) : Int := (nx t n i).2
theorem Tok_n {t : Int → Int} {n i a b : Int} (h : Tok t n i a b) : a = na t n i ∧ b = nb t n i := by
  unfold na nb nx
  have e : ∃ p : Int × Int, Tok t n i p.1 p.2 := ⟨(a, b), h⟩
  exact Tok_u h (Classical.epsilon_spec e)
/-- the number that a word of digits tells -/
def vF (t : Int → Int) (a : Int) : Nat → Int
  | 0 => 0
  | k + 1 => 10 * vF t a k + t (a + k) - 48
def nF (t : Int → Int) (a b : Int) : Int := if (48 ≤ t a ∧ t a ≤ 57) ∧ b - a ≤ 4 then vF t a (b - a).toNat else -1
theorem vF_b {t : Int → Int} {a : Int} {m : Nat} (h : ∀ k : Int, a ≤ k → k < a + m → 48 ≤ t k ∧ t k ≤ 57) : 0 ≤ vF t a m ∧ (m ≤ 1 → vF t a m ≤ 9) ∧ (m ≤ 2 → vF t a m ≤ 99) ∧ (m ≤ 3 → vF t a m ≤ 999) ∧ (m ≤ 4 → vF t a m ≤ 9999) ∧ (m = 0 → vF t a m = 0) := by
  induction m with
  | zero =>
    show 0 ≤ (0 : Int) ∧ (0 ≤ 1 → (0 : Int) ≤ 9) ∧ (0 ≤ 2 → (0 : Int) ≤ 99) ∧ (0 ≤ 3 → (0 : Int) ≤ 999) ∧ (0 ≤ 4 → (0 : Int) ≤ 9999) ∧ (0 = 0 → (0 : Int) = 0)
    omega
  | succ m ih =>
    have z := ih (fun k h1 h2 => h k h1 (by omega))
    have y := h (a + m) (by omega) (by omega)
    show 0 ≤ 10 * vF t a m + t (a + m) - 48 ∧ (m + 1 ≤ 1 → 10 * vF t a m + t (a + m) - 48 ≤ 9) ∧ (m + 1 ≤ 2 → 10 * vF t a m + t (a + m) - 48 ≤ 99) ∧ (m + 1 ≤ 3 → 10 * vF t a m + t (a + m) - 48 ≤ 999) ∧ (m + 1 ≤ 4 → 10 * vF t a m + t (a + m) - 48 ≤ 9999) ∧ (m + 1 = 0 → 10 * vF t a m + t (a + m) - 48 = 0)
    omega
def mkW0 (t : Int → Int) (a b : Int) : Prop := (b - a = 4 ∧ t a = 108 ∧ t (a + 1) = 97 ∧ t (a + 2) = 115 ∧ t (a + 3) = 116)
def mkW1 (t : Int → Int) (a b : Int) : Prop := (b - a = 2 ∧ t a = 103 ∧ t (a + 1) = 111)
def mkW2 (t : Int → Int) (a b : Int) : Prop := (b - a = 4 ∧ t a = 108 ∧ t (a + 1) = 111 ∧ t (a + 2) = 97 ∧ t (a + 3) = 100)
def mkW3 (t : Int → Int) (a b : Int) : Prop := (b - a = 4 ∧ t a = 104 ∧ t (a + 1) = 111 ∧ t (a + 2) = 108 ∧ t (a + 3) = 100)
def mkW4 (t : Int → Int) (a b : Int) : Prop := (b - a = 4 ∧ t a = 98 ∧ t (a + 1) = 97 ∧ t (a + 2) = 99 ∧ t (a + 3) = 107)
def mkW5 (t : Int → Int) (a b : Int) : Prop := (b - a = 4 ∧ t a = 114 ∧ t (a + 1) = 101 ∧ t (a + 2) = 97 ∧ t (a + 3) = 100)
def mkW6 (t : Int → Int) (a b : Int) : Prop := (b - a = 4 ∧ t a = 116 ∧ t (a + 1) = 105 ∧ t (a + 2) = 108 ∧ t (a + 3) = 108)
def mkW7 (t : Int → Int) (a b : Int) : Prop := (b - a = 1 ∧ t a = 44)
def mkW8 (t : Int → Int) (a b : Int) : Prop := (b - a = 1 ∧ t a = 59)
/-- which act a word tells -/
noncomputable def aF (t : Int → Int) (a b : Int) : Int := @ite Int (mkW1 t a b) (Classical.propDecidable _) 0 (@ite Int (mkW2 t a b) (Classical.propDecidable _) 1 (@ite Int (mkW3 t a b) (Classical.propDecidable _) 2 (@ite Int (mkW4 t a b) (Classical.propDecidable _) 3 (@ite Int (mkW5 t a b) (Classical.propDecidable _) 4 (@ite Int (mkW6 t a b) (Classical.propDecidable _) 5 ((-1)))))))
theorem aF_1 {t : Int → Int} {a b : Int}  (h : mkW1 t a b) : aF t a b = 0 := by
  unfold aF
  exact if_pos h
theorem aF_2 {t : Int → Int} {a b : Int} (n1 : ¬ mkW1 t a b) (h : mkW2 t a b) : aF t a b = 1 := by
  unfold aF
  rw [if_neg n1]; exact if_pos h
theorem aF_3 {t : Int → Int} {a b : Int} (n1 : ¬ mkW1 t a b) (n2 : ¬ mkW2 t a b) (h : mkW3 t a b) : aF t a b = 2 := by
  unfold aF
  rw [if_neg n1]; rw [if_neg n2]; exact if_pos h
theorem aF_4 {t : Int → Int} {a b : Int} (n1 : ¬ mkW1 t a b) (n2 : ¬ mkW2 t a b) (n3 : ¬ mkW3 t a b) (h : mkW4 t a b) : aF t a b = 3 := by
  unfold aF
  rw [if_neg n1]; rw [if_neg n2]; rw [if_neg n3]; exact if_pos h
theorem aF_5 {t : Int → Int} {a b : Int} (n1 : ¬ mkW1 t a b) (n2 : ¬ mkW2 t a b) (n3 : ¬ mkW3 t a b) (n4 : ¬ mkW4 t a b) (h : mkW5 t a b) : aF t a b = 4 := by
  unfold aF
  rw [if_neg n1]; rw [if_neg n2]; rw [if_neg n3]; rw [if_neg n4]; exact if_pos h
theorem aF_6 {t : Int → Int} {a b : Int} (n1 : ¬ mkW1 t a b) (n2 : ¬ mkW2 t a b) (n3 : ¬ mkW3 t a b) (n4 : ¬ mkW4 t a b) (n5 : ¬ mkW5 t a b) (h : mkW6 t a b) : aF t a b = 5 := by
  unfold aF
  rw [if_neg n1]; rw [if_neg n2]; rw [if_neg n3]; rw [if_neg n4]; rw [if_neg n5]; exact if_pos h
theorem aF_7 {t : Int → Int} {a b : Int} (n1 : ¬ mkW1 t a b) (n2 : ¬ mkW2 t a b) (n3 : ¬ mkW3 t a b) (n4 : ¬ mkW4 t a b) (n5 : ¬ mkW5 t a b) (n6 : ¬ mkW6 t a b) : aF t a b = -1 := by
  unfold aF
  rw [if_neg n1]; rw [if_neg n2]; rw [if_neg n3]; rw [if_neg n4]; rw [if_neg n5]; rw [if_neg n6]
/-- a part at the word from a to b: whether it is one, where the text stands behind it, the fault, its amount -/
abbrev pok (t : Int → Int) (n a b : Int) : Prop := 0 ≤ aF t a b ∧ (aF t a b = 4 ∨ 0 ≤ nF t (na t n b) (nb t n b))
noncomputable def peA (t : Int → Int) (n a b : Int) : Int := if aF t a b = 4 then na t n b else na t n (nb t n b)
noncomputable def peB (t : Int → Int) (n a b : Int) : Int := if aF t a b = 4 then nb t n b else nb t n (nb t n b)
noncomputable def pfl (t : Int → Int) (n a b : Int) : Int := if aF t a b < 0 then a else na t n b
noncomputable def pam (t : Int → Int) (n a b : Int) : Int := if aF t a b = 4 then 0 else nF t (na t n b) (nb t n b)
