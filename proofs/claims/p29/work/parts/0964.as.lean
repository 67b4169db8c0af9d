/-! whether a piece is of a kind. Own work (scripts laid by wip/pm/gen34.py). -/
section AS
variable {G : pG} {d : Nat} {F : pF} {I : pI} {Q : Option pV → pF → pI → Prop}
theorem above_e {k : Int} (h : 0 ≤ k ∧ k ≤ 5) : (k = 0 → aboveT.getD (Int.toNat k) 0 = -1) ∧ (k = 1 ∨ k = 2 ∨ k = 4 → aboveT.getD (Int.toNat k) 0 = 0) ∧ (k = 3 → aboveT.getD (Int.toNat k) 0 = 1) ∧ (k = 5 → aboveT.getD (Int.toNat k) 0 = 2) := by
  have c : k = 0 ∨ k = 1 ∨ k = 2 ∨ k = 3 ∨ k = 4 ∨ k = 5 := by omega
  rcases c with e | e | e | e | e | e <;> subst e <;> decide
theorem c_above6 (hF : FS F) (hR : Rg I) {v0 : Int}  (hQ : ∀ r : Int, iR r → (v0 ≤ 0 → r = -1) → (v0 = 1 ∨ v0 = 2 ∨ v0 = 4 → r = 0) → (v0 = 3 → r = 1) → (v0 = 5 → r = 2) → Q (some (vi r)) F I) : CallN G d kX4_above [vi v0] NP F I Q := by
  refine CallN_in (fun hok hA => CallN_out ?_)
  have iv0 : -2147483648 ≤ v0 ∧ v0 < 2147483648 := hok (vi v0) (by simp)
  refine Call_wp (lv := [some (vi v0)]) (by decide) ckX4_above [] rfl rfl ?_
  refine ⟨fun (c1 : ((v0 : Int) < 0)) => ?_, fun (c1 : (¬ ((v0 : Int) < 0))) => ?_⟩
  ·
    exact ⟨rfl, fun hv hA' => hQ _ (hv _ rfl) (show v0 ≤ 0 → (-1) = -1 from by (first | omega | (have e := above_e (k := v0) (by omega); omega))) (show v0 = 1 ∨ v0 = 2 ∨ v0 = 4 → (-1) = 0 from by (first | omega | (have e := above_e (k := v0) (by omega); omega))) (show v0 = 3 → (-1) = 1 from by (first | omega | (have e := above_e (k := v0) (by omega); omega))) (show v0 = 5 → (-1) = 2 from by (first | omega | (have e := above_e (k := v0) (by omega); omega)))⟩
  ·
    refine Or.inl ⟨rfl, ?_⟩
    refine ⟨fun (c2 : ((6 : Int) ≤ v0)) => ?_, fun (c2 : (¬ ((6 : Int) ≤ v0))) => ?_⟩
    ·
      exact ⟨rfl, fun hv hA' => hQ _ (hv _ rfl) (show v0 ≤ 0 → (-1) = -1 from by (first | omega | (have e := above_e (k := v0) (by omega); omega))) (show v0 = 1 ∨ v0 = 2 ∨ v0 = 4 → (-1) = 0 from by (first | omega | (have e := above_e (k := v0) (by omega); omega))) (show v0 = 3 → (-1) = 1 from by (first | omega | (have e := above_e (k := v0) (by omega); omega))) (show v0 = 5 → (-1) = 2 from by (first | omega | (have e := above_e (k := v0) (by omega); omega)))⟩
    ·
      refine Or.inl ⟨rfl, (show (0 : Int) ≤ v0 from by first | with_reducible assumption | omega | (simp only [wr, wl] at *; omega)), (show v0 < (6 : Int) from by first | with_reducible assumption | omega | (simp only [wr, wl] at *; omega)), ?_⟩
      exact ⟨rfl, fun hv hA' => hQ _ (hv _ rfl) (show v0 ≤ 0 → (aboveT.getD (Int.toNat v0) 0) = -1 from by (first | omega | (have e := above_e (k := v0) (by omega); omega))) (show v0 = 1 ∨ v0 = 2 ∨ v0 = 4 → (aboveT.getD (Int.toNat v0) 0) = 0 from by (first | omega | (have e := above_e (k := v0) (by omega); omega))) (show v0 = 3 → (aboveT.getD (Int.toNat v0) 0) = 1 from by (first | omega | (have e := above_e (k := v0) (by omega); omega))) (show v0 = 5 → (aboveT.getD (Int.toNat v0) 0) = 2 from by (first | omega | (have e := above_e (k := v0) (by omega); omega)))⟩
theorem c_isOf6_l (hF : FS F) (hR : Rg I) {v0 : Int} {q : Nat} (hp : PP F q) (ha : 0 ≤ v0 ∧ v0 ≤ 5) (hQ : ∀ (r : Int) , (0 ≤ r ∧ r ≤ 1) → (r = 1 → (v0 = (I q 0) ∨ v0 = 0 ∨ ((I q 0) = 3 ∧ v0 = 1) ∨ ((I q 0) = 5 ∧ v0 = 2))) → ((v0 = (I q 0) ∨ v0 = 0 ∨ ((I q 0) = 3 ∧ v0 = 1) ∨ ((I q 0) = 5 ∧ v0 = 2)) → r = 1) → Q (some (vi r)) F I) : ∀ (mz : Nat) (k i : Int) , (((-1) : Int) ≤ k) → ((k : Int) ≤ 5) → ((0 : Int) ≤ i) → ((i : Int) ≤ 6) → ((0 ≤ k ∧ (v0 = k ∨ v0 = 0 ∨ (k = 3 ∧ v0 = 1) ∨ (k = 5 ∧ v0 = 2))) → (v0 = (I q 0) ∨ v0 = 0 ∨ ((I q 0) = 3 ∧ v0 = 1) ∨ ((I q 0) = 5 ∧ v0 = 2))) → ((v0 = (I q 0) ∨ v0 = 0 ∨ ((I q 0) = 3 ∧ v0 = 1) ∨ ((I q 0) = 5 ∧ v0 = 2)) → (0 ≤ k ∧ (v0 = k ∨ v0 = 0 ∨ (k = 3 ∧ v0 = 1) ∨ (k = 5 ∧ v0 = 2)))) → (i = 0 ∨ (i = 1 ∧ k ≤ 2) ∨ (i = 2 ∧ k ≤ 0) ∨ (3 ≤ i ∧ k ≤ -1)) → (6 - i).toNat < mz → GoN G (d + 1) kX4_isOf NP NP 7 [some (vr q), some (vi v0), some (vi k), some (vi i)] [] F I Q := by
  intro mz
  induction mz with
  | zero => intro k i _ _ _ _ _ _ _ h; exact absurd h (Nat.not_lt_zero _)
  | succ mz ih =>
    intro k i c100 c101 c102 c103 c104 c105 c106 hm
    refine GoN_in (fun hok hA => ?_)
    have iiv0 : -2147483648 ≤ v0 ∧ v0 < 2147483648 := hok 1 _ rfl
    have iik : -2147483648 ≤ k ∧ k < 2147483648 := hok 2 _ rfl
    have iii : -2147483648 ≤ i ∧ i < 2147483648 := hok 3 _ rfl
    have a1 : -2147483648 ≤ (I q 0) ∧ (I q 0) < 2147483648 := hA.1 _ _
    refine Go_wp (by decide) ckX4_isOf [7] ?_
    refine ⟨fun (c2 : ((6 : Int) ≤ i)) => ?_, fun (c2 : (¬ ((6 : Int) ≤ i))) => ?_⟩
    ·
      exact ⟨rfl, (by decide), hQ _ (show 0 ≤ 0 ∧ 0 ≤ 1 from by decide) (show 0 = 1 → (v0 = (I q 0) ∨ v0 = 0 ∨ ((I q 0) = 3 ∧ v0 = 1) ∨ ((I q 0) = 5 ∧ v0 = 2)) from fun z => absurd z (by decide)) (show (v0 = (I q 0) ∨ v0 = 0 ∨ ((I q 0) = 3 ∧ v0 = 1) ∨ ((I q 0) = 5 ∧ v0 = 2)) → 0 = 1 from by first | with_reducible assumption | omega | (simp only [wr, wl] at *; omega))⟩
    ·
      refine ⟨fun (c3 : ((k : Int) < 0)) => ?_, fun (c3 : (¬ ((k : Int) < 0))) => ?_⟩
      ·
        exact ⟨rfl, (by decide), hQ _ (show 0 ≤ 0 ∧ 0 ≤ 1 from by decide) (show 0 = 1 → (v0 = (I q 0) ∨ v0 = 0 ∨ ((I q 0) = 3 ∧ v0 = 1) ∨ ((I q 0) = 5 ∧ v0 = 2)) from fun z => absurd z (by decide)) (show (v0 = (I q 0) ∨ v0 = 0 ∨ ((I q 0) = 3 ∧ v0 = 1) ∨ ((I q 0) = 5 ∧ v0 = 2)) → 0 = 1 from by first | with_reducible assumption | omega | (simp only [wr, wl] at *; omega))⟩
      ·
        refine ⟨fun (c4 : (¬ (k : Int) = v0)) => ?_, fun (c4 : ((k : Int) = v0)) => ?_⟩
        ·
          refine c_above6  hF hR (fun vr5 hr6 q7 q8 q9 q10 => ?_)
          have hr6 : -2147483648 ≤ vr5 ∧ vr5 < 2147483648 := hr6
          have q7 : (k : Int) ≤ 0 → vr5 = -1 := q7
          have q8 : (k : Int) = 1 ∨ (k : Int) = 2 ∨ (k : Int) = 4 → vr5 = 0 := q8
          have q9 : (k : Int) = 3 → vr5 = 1 := q9
          have q10 : (k : Int) = 5 → vr5 = 2 := q10
          have n11 : (wr (i + 1)) = i + 1 := wr_id (show -2147483648 ≤ (i + 1 : Int) ∧ (i + 1 : Int) < 2147483648 from by first | (clear c104 c105 c106 q7 q8 q9 q10; omega) | (clear c104 c105 c106; omega) | omega)
          exact ih vr5 (wr (i + 1))  (show ((-1) : Int) ≤ vr5 from by first | with_reducible assumption | (clear c104 c105 c106 q7 q8 q9 q10; omega) | (clear c104 c105 c106; omega) | omega | (simp only [wr, wl] at *; omega)) (show (vr5 : Int) ≤ 5 from by first | with_reducible assumption | (clear c104 c105 c106 q7 q8 q9 q10; omega) | (clear c104 c105 c106; omega) | omega | (simp only [wr, wl] at *; omega)) (show (0 : Int) ≤ (wr (i + 1)) from by first | with_reducible assumption | (clear c104 c105 c106 q7 q8 q9 q10; omega) | (clear c104 c105 c106; omega) | omega | (simp only [wr, wl] at *; omega)) (show ((wr (i + 1)) : Int) ≤ 6 from by first | with_reducible assumption | (clear c104 c105 c106 q7 q8 q9 q10; omega) | (clear c104 c105 c106; omega) | omega | (simp only [wr, wl] at *; omega)) (show (0 ≤ vr5 ∧ (v0 = vr5 ∨ v0 = 0 ∨ (vr5 = 3 ∧ v0 = 1) ∨ (vr5 = 5 ∧ v0 = 2))) → (v0 = (I q 0) ∨ v0 = 0 ∨ ((I q 0) = 3 ∧ v0 = 1) ∨ ((I q 0) = 5 ∧ v0 = 2)) from by first | omega | (simp only [wr, wl] at *; omega)) (show (v0 = (I q 0) ∨ v0 = 0 ∨ ((I q 0) = 3 ∧ v0 = 1) ∨ ((I q 0) = 5 ∧ v0 = 2)) → (0 ≤ vr5 ∧ (v0 = vr5 ∨ v0 = 0 ∨ (vr5 = 3 ∧ v0 = 1) ∨ (vr5 = 5 ∧ v0 = 2))) from by first | omega | (simp only [wr, wl] at *; omega)) (show (wr (i + 1)) = 0 ∨ ((wr (i + 1)) = 1 ∧ vr5 ≤ 2) ∨ ((wr (i + 1)) = 2 ∧ vr5 ≤ 0) ∨ (3 ≤ (wr (i + 1)) ∧ vr5 ≤ -1) from by first | (clear c104 c105 c106 q7 q8 q9 q10; omega) | (clear c104 c105 c106; omega) | omega | (simp only [wr, wl] at *; omega)) (show (6 - (wr (i + 1))).toNat < mz from by first | (clear c104 c105 c106 q7 q8 q9 q10; omega) | (clear c104 c105 c106; omega) | omega)
        ·
          exact ⟨rfl, (by decide), hQ _ (show 0 ≤ 1 ∧ 1 ≤ 1 from by decide) (show 1 = 1 → (v0 = (I q 0) ∨ v0 = 0 ∨ ((I q 0) = 3 ∧ v0 = 1) ∨ ((I q 0) = 5 ∧ v0 = 2)) from by first | with_reducible assumption | omega | (simp only [wr, wl] at *; omega)) (show (v0 = (I q 0) ∨ v0 = 0 ∨ ((I q 0) = 3 ∧ v0 = 1) ∨ ((I q 0) = 5 ∧ v0 = 2)) → 1 = 1 from by first | with_reducible assumption | omega | (simp only [wr, wl] at *; omega))⟩
theorem c_isOf6 (hF : FS F) (hR : Rg I) {v0 : Int} {q : Nat} (hp : PP F q) (ha : 0 ≤ v0 ∧ v0 ≤ 5) (hk : 0 ≤ I q 0 ∧ I q 0 ≤ 5) (hQ : ∀ r : Int, iR r → (0 ≤ r ∧ r ≤ 1) → (r = 1 → (v0 = (I q 0) ∨ v0 = 0 ∨ ((I q 0) = 3 ∧ v0 = 1) ∨ ((I q 0) = 5 ∧ v0 = 2))) → ((v0 = (I q 0) ∨ v0 = 0 ∨ ((I q 0) = 3 ∧ v0 = 1) ∨ ((I q 0) = 5 ∧ v0 = 2)) → r = 1) → Q (some (vi r)) F I) : CallN G (d + 1) kX4_isOf [vr q, vi v0] NP F I Q := by
  refine CallN_in (fun hok hA => CallN_out ?_)
  have iv0 : -2147483648 ≤ v0 ∧ v0 < 2147483648 := hok (vi v0) (by simp)
  refine Call_wp (lv := [some (vr q), some (vi v0), none, none]) (by decide) ckX4_isOf [7] rfl rfl ?_
  refine ⟨_, hp.1.1, (by have := hp.2; show _ < 254; omega), ?_⟩
  have a1 : -2147483648 ≤ (I q 0) ∧ (I q 0) < 2147483648 := hA.1 _ _
  refine c_isOf6_l hF hR hp (by omega) (fun r g3 g4 g5 hv hA' => hQ _ (hv _ rfl) g3 g4 g5) _ (I q 0) 0  (show ((-1) : Int) ≤ (I q 0) from by first | with_reducible assumption | omega | (simp only [wr, wl] at *; omega)) (show ((I q 0) : Int) ≤ 5 from by first | with_reducible assumption | omega | (simp only [wr, wl] at *; omega)) (show (0 : Int) ≤ (0 : Int) from Int.le_refl _) (show ((0 : Int) : Int) ≤ 6 from by first | with_reducible assumption | omega | (simp only [wr, wl] at *; omega)) (show (0 ≤ (I q 0) ∧ (v0 = (I q 0) ∨ v0 = 0 ∨ ((I q 0) = 3 ∧ v0 = 1) ∨ ((I q 0) = 5 ∧ v0 = 2))) → (v0 = (I q 0) ∨ v0 = 0 ∨ ((I q 0) = 3 ∧ v0 = 1) ∨ ((I q 0) = 5 ∧ v0 = 2)) from by first | omega | (simp only [wr, wl] at *; omega)) (show (v0 = (I q 0) ∨ v0 = 0 ∨ ((I q 0) = 3 ∧ v0 = 1) ∨ ((I q 0) = 5 ∧ v0 = 2)) → (0 ≤ (I q 0) ∧ (v0 = (I q 0) ∨ v0 = 0 ∨ ((I q 0) = 3 ∧ v0 = 1) ∨ ((I q 0) = 5 ∧ v0 = 2))) from by first | omega | (simp only [wr, wl] at *; omega)) (show (0 : Int) = 0 ∨ ((0 : Int) = 1 ∧ (I q 0) ≤ 2) ∨ ((0 : Int) = 2 ∧ (I q 0) ≤ 0) ∨ (3 ≤ (0 : Int) ∧ (I q 0) ≤ -1) from by first | omega | (simp only [wr, wl] at *; omega)) (Nat.lt_succ_self _)
end AS
