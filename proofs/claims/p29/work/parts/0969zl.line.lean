/-! the line through most readings, where it yields: pure. Own work. -/
theorem pmb {x y : Int} (hx : -402000 ≤ x ∧ x ≤ 402000) (hy : -5100000 ≤ y ∧ y ≤ 5100000) : -2050200000000 ≤ x * y ∧ x * y ≤ 2050200000000 := by
  have h : (x * y).natAbs ≤ 402000 * 5100000 := by rw [Int.natAbs_mul]; exact Nat.mul_le_mul (by omega) (by omega)
  omega
theorem wlA {S L : Nat → Int} (hb : RB S L) {i j k : Nat} {x y : Int} (hx : x = L j - L i) (hy : y = S k - S i) : wl (x * y) = pA S L i j k ∧ wl (y * x) = pA S L i j k ∧ -2050200000000 ≤ pA S L i j k ∧ pA S L i j k ≤ 2050200000000 := by
  have b1 := hb.1 k
  have b2 := hb.1 i
  have b3 := hb.2 j
  have b4 := hb.2 i
  have e : x * y = pA S L i j k := by unfold pA; rw [hx, hy]
  have m := pmb (x := x) (y := y) (by omega) (by omega)
  refine ⟨?_, ?_, by omega, by omega⟩
  · rw [← e]; exact wl_id (by unfold lR; omega)
  · rw [Int.mul_comm, ← e]; exact wl_id (by unfold lR; omega)
theorem wlB {S L : Nat → Int} (hb : RB S L) {i j k : Nat} {o x y : Int} (hx : x = L k - L i + o) (hy : y = S j - S i) (ho : 0 ≤ o ∧ o ≤ 999) : wl (x * y) = pB S L i j k o ∧ wl (y * x) = pB S L i j k o ∧ -2050200000000 ≤ pB S L i j k o ∧ pB S L i j k o ≤ 2050200000000 := by
  have b1 := hb.1 j
  have b2 := hb.1 i
  have b3 := hb.2 k
  have b4 := hb.2 i
  have e : x * y = pB S L i j k o := by unfold pB; rw [hx, hy]
  have m := pmb (x := x) (y := y) (by omega) (by omega)
  refine ⟨?_, ?_, by omega, by omega⟩
  · rw [← e]; exact wl_id (by unfold lR; omega)
  · rw [Int.mul_comm, ← e]; exact wl_id (by unfold lR; omega)
theorem bl_v {S L : Nat → Int} {i j k : Nat} {o : Int} : (S j - S i < 0 → blF S L i j k o = pB S L i j k o - pA S L i j k) ∧ (¬ S j - S i < 0 → blF S L i j k o = pA S L i j k - pB S L i j k o) := by
  unfold blF
  refine ⟨fun h => ?_, fun h => ?_⟩
  · rw [if_pos h]; omega
  · rw [if_neg h]
theorem lyF_s {S L : Nat → Int} {i j k : Nat} : (0 ≤ L k → blF S L i j k 0 = 0 → lyF S L i j (k + 1) = lyF S L i j k + 1) ∧ (¬ (0 ≤ L k ∧ blF S L i j k 0 = 0) → lyF S L i j (k + 1) = lyF S L i j k) := by
  refine ⟨fun h g => ?_, fun h => ?_⟩
  · show lyF S L i j k + (if 0 ≤ L k ∧ blF S L i j k 0 = 0 then 1 else 0) = _
    rw [if_pos ⟨h, g⟩]
  · show lyF S L i j k + (if 0 ≤ L k ∧ blF S L i j k 0 = 0 then 1 else 0) = _
    rw [if_neg h]; omega
theorem lyF_b {S L : Nat → Int} {i j : Nat} : ∀ k : Nat, 0 ≤ lyF S L i j k ∧ lyF S L i j k ≤ k := by
  intro k
  induction k with
  | zero => exact ⟨by show (0 : Int) ≤ 0; omega, by show (0 : Int) ≤ ((0 : Nat) : Int); omega⟩
  | succ k ih =>
    have s := lyF_s (S := S) (L := L) (i := i) (j := j) (k := k)
    by_cases c : 0 ≤ L k ∧ blF S L i j k 0 = 0
    · rw [s.1 c.1 c.2]; omega
    · rw [s.2 c]; omega
theorem trF_0 {S L : Nat → Int} {n i j : Nat} {T : Int × Int × Int} (h : ¬ (0 ≤ L i ∧ 0 ≤ L j ∧ ¬ S i = S j)) : trF S L n i j T = T := if_neg h
theorem trF_n {S L : Nat → Int} {n i j : Nat} {T : Int × Int × Int} (h : ¬ T.2.2 < lyF S L i j n) : trF S L n i j T = T := by
  unfold trF
  by_cases c : 0 ≤ L i ∧ 0 ≤ L j ∧ ¬ S i = S j
  · rw [if_pos c, if_neg h]
  · rw [if_neg c]
theorem trF_y {S L : Nat → Int} {n i j : Nat} {T : Int × Int × Int} (h : 0 ≤ L i ∧ 0 ≤ L j ∧ ¬ S i = S j) (g : T.2.2 < lyF S L i j n) : trF S L n i j T = ((i : Int), (j : Int), lyF S L i j n) := by
  unfold trF
  rw [if_pos h, if_pos g]
/-- what a line kept so far must be -/
def TOK (S : Nat → Int) (n : Nat) (T : Int × Int × Int) : Prop := 0 ≤ T.2.2 ∧ T.2.2 ≤ (n : Int) ∧ (0 < T.2.2 → 0 ≤ T.1 ∧ T.1 < (n : Int) ∧ 0 ≤ T.2.1 ∧ T.2.1 < (n : Int) ∧ ¬ S (Int.toNat T.1) = S (Int.toNat T.2.1))
theorem tr_ok {S L : Nat → Int} {n i j : Nat} {T : Int × Int × Int} (hT : TOK S n T) (hi : i < n) (hj : j < n) : TOK S n (trF S L n i j T) := by
  by_cases c : 0 ≤ L i ∧ 0 ≤ L j ∧ ¬ S i = S j
  · by_cases g : T.2.2 < lyF S L i j n
    · rw [trF_y c g]
      have b := lyF_b (S := S) (L := L) (i := i) (j := j) n
      exact ⟨b.1, b.2, fun _ => ⟨by show (0 : Int) ≤ (i : Int); omega, by show (i : Int) < n; omega, by show (0 : Int) ≤ (j : Int); omega, by show (j : Int) < n; omega, by show ¬ S (Int.toNat (i : Int)) = S (Int.toNat (j : Int)); rw [Int.toNat_natCast, Int.toNat_natCast]; exact c.2.2⟩⟩
    · rw [trF_n g]; exact hT
  · rw [trF_0 c]; exact hT
theorem in_ok {S L : Nat → Int} {n i : Nat} (hi : i < n) : ∀ (m j : Nat) (T : Int × Int × Int), j + m ≤ n → TOK S n T → TOK S n (inF S L n i m j T) := by
  intro m
  induction m with
  | zero => intro j T _ h; exact h
  | succ m ih => intro j T hj h; exact ih (j + 1) _ (by omega) (tr_ok h hi (by omega))
theorem ot_ok {S L : Nat → Int} {n : Nat} : ∀ (m i : Nat) (T : Int × Int × Int), i + m ≤ n → TOK S n T → TOK S n (otF S L n m i T) := by
  intro m
  induction m with
  | zero => intro i T _ h; exact h
  | succ m ih => intro i T hi h; exact ih (i + 1) _ (by omega) (in_ok (by omega) _ _ _ (by omega) h)
def LT (S L : Nat → Int) (n : Nat) : Int × Int × Int := otF S L n n 0 (0, 0, 0)
theorem LT_ok {S L : Nat → Int} {n : Nat} : TOK S n (LT S L n) := ot_ok n 0 _ (by omega) ⟨by show (0 : Int) ≤ 0; omega, by show (0 : Int) ≤ (n : Int); omega, fun h => absurd h (by show ¬ (0 : Int) < 0; omega)⟩
def LNC (I : pI) (a : Nat) (T : Int × Int × Int) : Prop := I a 5 = T.2.2 ∧ (0 < T.2.2 → I a 3 = T.1 ∧ I a 4 = T.2.1)
def LNM (I : pI) (T : Int × Int × Int) : Prop := I 235 24 = T.2.2 ∧ (0 < T.2.2 → I 235 22 = T.1 ∧ I 235 23 = T.2.1)
theorem ot_s {S L : Nat → Int} {n i : Nat} {T : Int × Int × Int} {N k : Int} (h : k < N) (hk : 0 ≤ k) (e : i = Int.toNat k) : otF S L n (Int.toNat (N - k)) i T = otF S L n (Int.toNat (N - (k + 1))) (Int.toNat (k + 1)) (inF S L n i (n - (i + 1)) (i + 1) T) := by
  subst e
  rw [show Int.toNat (N - k) = Int.toNat (N - (k + 1)) + 1 from by omega, show Int.toNat (k + 1) = Int.toNat k + 1 from by omega]
  rfl
theorem ot_z {S L : Nat → Int} {n i : Nat} {T : Int × Int × Int} {N k : Int} (h : ¬ k < N) : otF S L n (Int.toNat (N - k)) i T = T := by
  rw [show Int.toNat (N - k) = 0 from by omega]; rfl
theorem in_s {S L : Nat → Int} {n i j : Nat} {T : Int × Int × Int} {N k : Int} (h : k < N) (hk : 0 ≤ k) (e : j = Int.toNat k) : inF S L n i (Int.toNat (N - k)) j T = inF S L n i (Int.toNat (N - (k + 1))) (Int.toNat (k + 1)) (trF S L n i j T) := by
  subst e
  rw [show Int.toNat (N - k) = Int.toNat (N - (k + 1)) + 1 from by omega, show Int.toNat (k + 1) = Int.toNat k + 1 from by omega]
  rfl
theorem in_z {S L : Nat → Int} {n i j : Nat} {T : Int × Int × Int} {N k : Int} (h : ¬ k < N) : inF S L n i (Int.toNat (N - k)) j T = T := by
  rw [show Int.toNat (N - k) = 0 from by omega]; rfl
/-- where the line yields -/
def ydF (S L : Nat → Int) (n : Nat) (o : Int) : Int := if 0 < (LT S L n).2.2 then ylF S L (Int.toNat (LT S L n).1) (Int.toNat (LT S L n).2.1) o (n - Int.toNat (LT S L n).2.1) (Int.toNat (LT S L n).2.1) else -1
theorem ydF_n {S L : Nat → Int} {n : Nat} {o : Int} (h : ¬ 0 < (LT S L n).2.2) : ydF S L n o = -1 := if_neg h
theorem ydF_y {S L : Nat → Int} {n : Nat} {o : Int} (h : 0 < (LT S L n).2.2) : ydF S L n o = ylF S L (Int.toNat (LT S L n).1) (Int.toNat (LT S L n).2.1) o (n - Int.toNat (LT S L n).2.1) (Int.toNat (LT S L n).2.1) := if_pos h
theorem yl_s {S L : Nat → Int} {i j : Nat} {o N k : Int} (h : k < N) (hk : 0 ≤ k) : (0 ≤ L (Int.toNat k) → 0 < blF S L i j (Int.toNat k) o → ylF S L i j o (Int.toNat (N - k)) (Int.toNat k) = k) ∧ (¬ (0 ≤ L (Int.toNat k) ∧ 0 < blF S L i j (Int.toNat k) o) → ylF S L i j o (Int.toNat (N - k)) (Int.toNat k) = ylF S L i j o (Int.toNat (N - (k + 1))) (Int.toNat (k + 1))) := by
  rw [show Int.toNat (N - k) = Int.toNat (N - (k + 1)) + 1 from by omega, show Int.toNat (k + 1) = Int.toNat k + 1 from by omega]
  refine ⟨fun a b => ?_, fun a => ?_⟩
  · have z : ylF S L i j o (Int.toNat (N - (k + 1)) + 1) (Int.toNat k) = ((Int.toNat k : Nat) : Int) := if_pos ⟨a, b⟩
    rw [z]; omega
  · exact if_neg a
theorem yl_z {S L : Nat → Int} {i j : Nat} {o N k : Int} (h : ¬ k < N) : ylF S L i j o (Int.toNat (N - k)) (Int.toNat k) = -1 := by
  rw [show Int.toNat (N - k) = 0 from by omega]; rfl
theorem yl_b {S L : Nat → Int} {i j : Nat} {o : Int} : ∀ m k : Nat, -1 ≤ ylF S L i j o m k ∧ ylF S L i j o m k < k + m := by
  intro m
  induction m with
  | zero => intro k; exact ⟨by show (-1 : Int) ≤ -1; omega, by show (-1 : Int) < (k : Int) + ((0 : Nat) : Int); omega⟩
  | succ m ih =>
    intro k
    unfold ylF
    by_cases c : 0 ≤ L k ∧ 0 < blF S L i j k o
    · rw [if_pos c]; omega
    · rw [if_neg c]; have := ih (k + 1); omega
theorem ydF_b {S L : Nat → Int} {n : Nat} {o : Int} : -1 ≤ ydF S L n o ∧ ydF S L n o < n := by
  have t := LT_ok (S := S) (L := L) (n := n)
  by_cases c : 0 < (LT S L n).2.2
  · rw [ydF_y c]
    have := t.2.2 c
    have := yl_b (S := S) (L := L) (i := Int.toNat (LT S L n).1) (j := Int.toNat (LT S L n).2.1) (o := o) (n - Int.toNat (LT S L n).2.1) (Int.toNat (LT S L n).2.1)
    omega
  · rw [ydF_n c]; omega
