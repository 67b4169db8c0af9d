/-! whether a piece is of a kind. Own work (scripts laid by wip/pm/gen34.py). -/
section AS
variable {G : pG} {d : Nat} {F : pF} {I : pI} {Q : Option pV → pF → pI → Prop}
theorem above_e {k : Int} (h : 0 ≤ k ∧ k ≤ 5) : (k = 0 → aboveT.getD (Int.toNat k) 0 = -1) ∧ (k = 1 ∨ k = 2 ∨ k = 4 → aboveT.getD (Int.toNat k) 0 = 0) ∧ (k = 3 → aboveT.getD (Int.toNat k) 0 = 1) ∧ (k = 5 → aboveT.getD (Int.toNat k) 0 = 2) := by
  have c : k = 0 ∨ k = 1 ∨ k = 2 ∨ k = 3 ∨ k = 4 ∨ k = 5 := by omega
  rcases c with e | e | e | e | e | e <;> subst e <;> decide
theorem c_above6 (hF : FS F) (hR : Rg I) {v0 : Int}  (hQ : ∀ r : Int, iR r → (v0 ≤ 0 → r = -1) → (v0 = 1 ∨ v0 = 2 ∨ v0 = 4 → r = 0) → (v0 = 3 → r = 1) → (v0 = 5 → r = 2) → Q (some (vi r)) F I) : CallN G d kX4_above [vi v0] NP F I Q := by
  refine CallN_in (fun hok hA => CallN_out ?_)
  have iv0 : -2147483648 ≤ v0 ∧ v0 < 2147483648 := hok (vi v0) (by simp)
  refine Call_wp (lv := [some (vi v0)]) (by decide) ckX4_above [] rfl rfl ?_
  refine ⟨fun (c1 : ((v0 : Int) < 0)) => ?_, fun (c1 : (¬ ((v0 : Int) < 0))) => ?_⟩
  ·
    exact ⟨rfl, fun hv hA' => hQ _ (hv _ rfl) (show v0 ≤ 0 → (-1) = -1 from by (first | omega | (have e := above_e (k := v0) (by omega); omega))) (show v0 = 1 ∨ v0 = 2 ∨ v0 = 4 → (-1) = 0 from by (first | omega | (have e := above_e (k := v0) (by omega); omega))) (show v0 = 3 → (-1) = 1 from by (first | omega | (have e := above_e (k := v0) (by omega); omega))) (show v0 = 5 → (-1) = 2 from by (first | omega | (have e := above_e (k := v0) (by omega); omega)))⟩
  ·
    refine Or.inl ⟨rfl, ?_⟩
    refine ⟨fun (c2 : ((6 : Int) ≤ v0)) => ?_, fun (c2 : (¬ ((6 : Int) ≤ v0))) => ?_⟩
    ·
      exact ⟨rfl, fun hv hA' => hQ _ (hv _ rfl) (show v0 ≤ 0 → (-1) = -1 from by (first | omega | (have e := above_e (k := v0) (by omega); omega))) (show v0 = 1 ∨ v0 = 2 ∨ v0 = 4 → (-1) = 0 from by (first | omega | (have e := above_e (k := v0) (by omega); omega))) (show v0 = 3 → (-1) = 1 from by (first | omega | (have e := above_e (k := v0) (by omega); omega))) (show v0 = 5 → (-1) = 2 from by (first | omega | (have e := above_e (k := v0) (by omega); omega)))⟩
    ·
      refine Or.inl ⟨rfl, (show (0 : Int) ≤ v0 from by first | omega | (simp only [wr, wl] at *; omega)), (show v0 < (6 : Int) from by first | omega | (simp only [wr, wl] at *; omega)), ?_⟩
      exact ⟨rfl, fun hv hA' => hQ _ (hv _ rfl) (show v0 ≤ 0 → (aboveT.getD (Int.toNat v0) 0) = -1 from by (first | omega | (have e := above_e (k := v0) (by omega); omega))) (show v0 = 1 ∨ v0 = 2 ∨ v0 = 4 → (aboveT.getD (Int.toNat v0) 0) = 0 from by (first | omega | (have e := above_e (k := v0) (by omega); omega))) (show v0 = 3 → (aboveT.getD (Int.toNat v0) 0) = 1 from by (first | omega | (have e := above_e (k := v0) (by omega); omega))) (show v0 = 5 → (aboveT.getD (Int.toNat v0) 0) = 2 from by (first | omega | (have e := above_e (k := v0) (by omega); omega)))⟩
theorem c_isOf6_l (hF : FS F) (hR : Rg I) {v0 : Int} {q : Nat} (hp : PP F q) (ha : 0 ≤ v0 ∧ v0 ≤ 5) (hQ : ∀ (r : Int) , (0 ≤ r ∧ r ≤ 1) → (r = 1 → (v0 = (I q 0) ∨ v0 = 0 ∨ ((I q 0) = 3 ∧ v0 = 1) ∨ ((I q 0) = 5 ∧ v0 = 2))) → ((v0 = (I q 0) ∨ v0 = 0 ∨ ((I q 0) = 3 ∧ v0 = 1) ∨ ((I q 0) = 5 ∧ v0 = 2)) → r = 1) → Q (some (vi r)) F I) : ∀ (mz : Nat) (k i : Int) , (((-1) : Int) ≤ k) → ((k : Int) ≤ 5) → ((0 : Int) ≤ i) → ((i : Int) ≤ 6) → ((0 ≤ k ∧ (v0 = k ∨ v0 = 0 ∨ (k = 3 ∧ v0 = 1) ∨ (k = 5 ∧ v0 = 2))) → (v0 = (I q 0) ∨ v0 = 0 ∨ ((I q 0) = 3 ∧ v0 = 1) ∨ ((I q 0) = 5 ∧ v0 = 2))) → ((v0 = (I q 0) ∨ v0 = 0 ∨ ((I q 0) = 3 ∧ v0 = 1) ∨ ((I q 0) = 5 ∧ v0 = 2)) → (0 ≤ k ∧ (v0 = k ∨ v0 = 0 ∨ (k = 3 ∧ v0 = 1) ∨ (k = 5 ∧ v0 = 2)))) → (i = 0 ∨ (i = 1 ∧ k ≤ 2) ∨ (i = 2 ∧ k ≤ 0) ∨ (3 ≤ i ∧ k ≤ -1)) → (6 - i).toNat < mz → GoN G (d + 1) kX4_isOf NP NP 7 [some (vr q), some (vi v0), some (vi k), some (vi i)] [] F I Q := by
  intro mz
  induction mz with
  | zero => intro k i _ _ _ _ _ _ _ h; exact absurd h (Nat.not_lt_zero _)
  | succ mz ih =>
    intro k i c100 c101 c102 c103 c104 c105 c106 hm
    refine GoN_in (fun hok hA => ?_)
    have iiv0 : -2147483648 ≤ v0 ∧ v0 < 2147483648 := hok 1 _ rfl
    have iik : -2147483648 ≤ k ∧ k < 2147483648 := hok 2 _ rfl
    have iii : -2147483648 ≤ i ∧ i < 2147483648 := hok 3 _ rfl
    have a1 : -2147483648 ≤ (I q 0) ∧ (I q 0) < 2147483648 := hA.1 _ _
    refine Go_wp (by decide) ckX4_isOf [7] ?_
    refine ⟨fun (c2 : ((6 : Int) ≤ i)) => ?_, fun (c2 : (¬ ((6 : Int) ≤ i))) => ?_⟩
    ·
      exact ⟨rfl, (by decide), hQ _ (show 0 ≤ 0 ∧ 0 ≤ 1 from by first | omega | (simp only [wr, wl] at *; omega)) (show 0 = 1 → (v0 = (I q 0) ∨ v0 = 0 ∨ ((I q 0) = 3 ∧ v0 = 1) ∨ ((I q 0) = 5 ∧ v0 = 2)) from by first | omega | (simp only [wr, wl] at *; omega)) (show (v0 = (I q 0) ∨ v0 = 0 ∨ ((I q 0) = 3 ∧ v0 = 1) ∨ ((I q 0) = 5 ∧ v0 = 2)) → 0 = 1 from by first | omega | (simp only [wr, wl] at *; omega))⟩
    ·
      refine ⟨fun (c3 : ((k : Int) < 0)) => ?_, fun (c3 : (¬ ((k : Int) < 0))) => ?_⟩
      ·
        exact ⟨rfl, (by decide), hQ _ (show 0 ≤ 0 ∧ 0 ≤ 1 from by first | omega | (simp only [wr, wl] at *; omega)) (show 0 = 1 → (v0 = (I q 0) ∨ v0 = 0 ∨ ((I q 0) = 3 ∧ v0 = 1) ∨ ((I q 0) = 5 ∧ v0 = 2)) from by first | omega | (simp only [wr, wl] at *; omega)) (show (v0 = (I q 0) ∨ v0 = 0 ∨ ((I q 0) = 3 ∧ v0 = 1) ∨ ((I q 0) = 5 ∧ v0 = 2)) → 0 = 1 from by first | omega | (simp only [wr, wl] at *; omega))⟩
      ·
        refine ⟨fun (c4 : (¬ (k : Int) = v0)) => ?_, fun (c4 : ((k : Int) = v0)) => ?_⟩
        ·
          refine c_above6  hF hR (fun vr5 hr6 q7 q8 q9 q10 => ?_)
          have hr6 : -2147483648 ≤ vr5 ∧ vr5 < 2147483648 := hr6
          have q7 : (k : Int) ≤ 0 → vr5 = -1 := q7
          have q8 : (k : Int) = 1 ∨ (k : Int) = 2 ∨ (k : Int) = 4 → vr5 = 0 := q8
          have q9 : (k : Int) = 3 → vr5 = 1 := q9
          have q10 : (k : Int) = 5 → vr5 = 2 := q10
          have n11 : (wr (i + 1)) = i + 1 := wr_id (show -2147483648 ≤ (i + 1 : Int) ∧ (i + 1 : Int) < 2147483648 from by omega)
          exact ih vr5 (wr (i + 1))  (show ((-1) : Int) ≤ vr5 from by first | omega | (simp only [wr, wl] at *; omega)) (show (vr5 : Int) ≤ 5 from by first | omega | (simp only [wr, wl] at *; omega)) (show (0 : Int) ≤ (wr (i + 1)) from by first | omega | (simp only [wr, wl] at *; omega)) (show ((wr (i + 1)) : Int) ≤ 6 from by first | omega | (simp only [wr, wl] at *; omega)) (show (0 ≤ vr5 ∧ (v0 = vr5 ∨ v0 = 0 ∨ (vr5 = 3 ∧ v0 = 1) ∨ (vr5 = 5 ∧ v0 = 2))) → (v0 = (I q 0) ∨ v0 = 0 ∨ ((I q 0) = 3 ∧ v0 = 1) ∨ ((I q 0) = 5 ∧ v0 = 2)) from by first | omega | (simp only [wr, wl] at *; omega)) (show (v0 = (I q 0) ∨ v0 = 0 ∨ ((I q 0) = 3 ∧ v0 = 1) ∨ ((I q 0) = 5 ∧ v0 = 2)) → (0 ≤ vr5 ∧ (v0 = vr5 ∨ v0 = 0 ∨ (vr5 = 3 ∧ v0 = 1) ∨ (vr5 = 5 ∧ v0 = 2))) from by first | omega | (simp only [wr, wl] at *; omega)) (show (wr (i + 1)) = 0 ∨ ((wr (i + 1)) = 1 ∧ vr5 ≤ 2) ∨ ((wr (i + 1)) = 2 ∧ vr5 ≤ 0) ∨ (3 ≤ (wr (i + 1)) ∧ vr5 ≤ -1) from by first | omega | (simp only [wr, wl] at *; omega)) (show (6 - (wr (i + 1))).toNat < mz from by omega)
        ·
          exact ⟨rfl, (by decide), hQ _ (show 0 ≤ 1 ∧ 1 ≤ 1 from by first | omega | (simp only [wr, wl] at *; omega)) (show 1 = 1 → (v0 = (I q 0) ∨ v0 = 0 ∨ ((I q 0) = 3 ∧ v0 = 1) ∨ ((I q 0) = 5 ∧ v0 = 2)) from by first | omega | (simp only [wr, wl] at *; omega)) (show (v0 = (I q 0) ∨ v0 = 0 ∨ ((I q 0) = 3 ∧ v0 = 1) ∨ ((I q 0) = 5 ∧ v0 = 2)) → 1 = 1 from by first | omega | (simp only [wr, wl] at *; omega))⟩
theorem c_isOf6 (hF : FS F) (hR : Rg I) {v0 : Int} {q : Nat} (hp : PP F q) (ha : 0 ≤ v0 ∧ v0 ≤ 5) (hk : 0 ≤ I q 0 ∧ I q 0 ≤ 5) (hQ : ∀ r : Int, iR r → (0 ≤ r ∧ r ≤ 1) → (r = 1 → (v0 = (I q 0) ∨ v0 = 0 ∨ ((I q 0) = 3 ∧ v0 = 1) ∨ ((I q 0) = 5 ∧ v0 = 2))) → ((v0 = (I q 0) ∨ v0 = 0 ∨ ((I q 0) = 3 ∧ v0 = 1) ∨ ((I q 0) = 5 ∧ v0 = 2)) → r = 1) → Q (some (vi r)) F I) : CallN G (d + 1) kX4_isOf [vr q, vi v0] NP F I Q := by
  refine CallN_in (fun hok hA => CallN_out ?_)
  have iv0 : -2147483648 ≤ v0 ∧ v0 < 2147483648 := hok (vi v0) (by simp)
  refine Call_wp (lv := [some (vr q), some (vi v0), none, none]) (by decide) ckX4_isOf [7] rfl rfl ?_
  refine ⟨_, hp.1.1, (by have := hp.2; show _ < 254; omega), ?_⟩
  have a1 : -2147483648 ≤ (I q 0) ∧ (I q 0) < 2147483648 := hA.1 _ _
  refine c_isOf6_l hF hR hp (by omega) (fun r g3 g4 g5 hv hA' => hQ _ (hv _ rfl) g3 g4 g5) _ (I q 0) 0  (show ((-1) : Int) ≤ (I q 0) from by first | omega | (simp only [wr, wl] at *; omega)) (show ((I q 0) : Int) ≤ 5 from by first | omega | (simp only [wr, wl] at *; omega)) (show (0 : Int) ≤ (0 : Int) from by first | omega | (simp only [wr, wl] at *; omega)) (show ((0 : Int) : Int) ≤ 6 from by first | omega | (simp only [wr, wl] at *; omega)) (show (0 ≤ (I q 0) ∧ (v0 = (I q 0) ∨ v0 = 0 ∨ ((I q 0) = 3 ∧ v0 = 1) ∨ ((I q 0) = 5 ∧ v0 = 2))) → (v0 = (I q 0) ∨ v0 = 0 ∨ ((I q 0) = 3 ∧ v0 = 1) ∨ ((I q 0) = 5 ∧ v0 = 2)) from by first | omega | (simp only [wr, wl] at *; omega)) (show (v0 = (I q 0) ∨ v0 = 0 ∨ ((I q 0) = 3 ∧ v0 = 1) ∨ ((I q 0) = 5 ∧ v0 = 2)) → (0 ≤ (I q 0) ∧ (v0 = (I q 0) ∨ v0 = 0 ∨ ((I q 0) = 3 ∧ v0 = 1) ∨ ((I q 0) = 5 ∧ v0 = 2))) from by first | omega | (simp only [wr, wl] at *; omega)) (show (0 : Int) = 0 ∨ ((0 : Int) = 1 ∧ (I q 0) ≤ 2) ∨ ((0 : Int) = 2 ∧ (I q 0) ≤ 0) ∨ (3 ≤ (0 : Int) ∧ (I q 0) ≤ -1) from by first | omega | (simp only [wr, wl] at *; omega)) (Nat.lt_succ_self _)
theorem c_as6 (hF : FS F) (hR : Rg I) {v0 v1 : Int} (hc : I 1 1 ≤ 14) (hk : ∀ p : Nat, (p : Int) < I 1 1 → 0 ≤ I (1 + 19 + 5 * p) 0 ∧ I (1 + 19 + 5 * p) 0 ≤ 5) (hQ : ∀ (r : Int) (I' : pI), Rg I' → AR I' → iR r → (∀ k j, ¬ (k = 203) → I' k j = I k j) → ((¬ ((0 ≤ v0 ∧ v0 < I 1 1) ∧ 0 ≤ v1 ∧ v1 ≤ 5) → r = -1000001) ∧ (((0 ≤ v0 ∧ v0 < I 1 1) ∧ 0 ≤ v1 ∧ v1 ≤ 5) → ((v1 = I (1 + 19 + 5 * Int.toNat v0) 0 ∨ v1 = 0 ∨ (I (1 + 19 + 5 * Int.toNat v0) 0 = 3 ∧ v1 = 1) ∨ (I (1 + 19 + 5 * Int.toNat v0) 0 = 5 ∧ v1 = 2)) → r = I (1 + 19 + 5 * Int.toNat v0) 2) ∧ (¬ (v1 = I (1 + 19 + 5 * Int.toNat v0) 0 ∨ v1 = 0 ∨ (I (1 + 19 + 5 * Int.toNat v0) 0 = 3 ∧ v1 = 1) ∨ (I (1 + 19 + 5 * Int.toNat v0) 0 = 5 ∧ v1 = 2)) → r = -1000005))) → Q (some (vi r)) F I') : CallN G (d + 2) kX11_as [vr 0, vi v0, vi v1] NP F I Q := by
  refine CallN_in (fun hok hA => CallN_out ?_)
  have iv0 : -2147483648 ≤ v0 ∧ v0 < 2147483648 := hok (vi v0) (by simp)
  have iv1 : -2147483648 ≤ v1 ∧ v1 < 2147483648 := hok (vi v1) (by simp)
  refine Call_wp (lv := [some (vr 0), some (vi v0), some (vi v1), none]) (by decide) ckX11_as [] rfl rfl ?_
  refine ⟨_, rfl, (by decide), ?_⟩
  refine fun w0 hw0 => ?_; obtain rfl : w0 = some 1 := hw0.symm.trans (FS.g hF rfl)
  refine ⟨⟨_, rfl, (by decide)⟩, ?_⟩
  refine s_X8_pieceAt hF (S := 1) (Or.inl rfl) (fun (w1 : (0 ≤ v0 ∧ v0 < (I 1 1) ∧ v0 < 14)) => ?_) (fun (w1 : ¬ (0 ≤ v0 ∧ v0 < (I 1 1) ∧ v0 < 14)) => ?_)
  ·
    have hp2 : PP F (1 + 19 + 5 * Int.toNat v0) := PP_of hF (by omega)
    refine s_X11_within (fun (w3 : ((0 : Int) ≤ v1 ∧ (v1 : Int) ≤ 5)) => ?_) (fun (w3 : ¬ ((0 : Int) ≤ v1 ∧ (v1 : Int) ≤ 5)) => ?_)
    ·
      refine ⟨fun _ => ?_, fun c => absurd c (show (¬ (1 : Int) = 0) from by decide)⟩
      refine ⟨⟨_, hp2.1.1, (by have := hp2.2; show _ < 254; omega)⟩, ?_⟩
      refine c_isOf6 (v0 := v1) hF hR hp2 (by omega) (hk _ (by omega)) (fun vr4 hr5 q6 q7 q8 => ?_)
      have hr5 : -2147483648 ≤ vr4 ∧ vr4 < 2147483648 := hr5
      have q6 : 0 ≤ vr4 ∧ vr4 ≤ 1 := q6
      have a9 : -2147483648 ≤ (I (1 + 19 + 5 * Int.toNat v0) 0) ∧ (I (1 + 19 + 5 * Int.toNat v0) 0) < 2147483648 := hA.1 _ _
      have q7 : vr4 = 1 → ((v1 : Int) = (I (1 + 19 + 5 * Int.toNat v0) 0) ∨ (v1 : Int) = 0 ∨ ((I (1 + 19 + 5 * Int.toNat v0) 0) = 3 ∧ (v1 : Int) = 1) ∨ ((I (1 + 19 + 5 * Int.toNat v0) 0) = 5 ∧ (v1 : Int) = 2)) := q7
      have q8 : ((v1 : Int) = (I (1 + 19 + 5 * Int.toNat v0) 0) ∨ (v1 : Int) = 0 ∨ ((I (1 + 19 + 5 * Int.toNat v0) 0) = 3 ∧ (v1 : Int) = 1) ∨ ((I (1 + 19 + 5 * Int.toNat v0) 0) = 5 ∧ (v1 : Int) = 2)) → vr4 = 1 := q8
      refine ⟨fun (c10 : ((vr4 : Int) = 0)) => ?_, fun (c10 : (¬ ((vr4 : Int) = 0))) => ?_⟩
      ·
        refine ⟨⟨_, rfl, (by decide)⟩, ?_⟩
        refine s_X11_refuse hF (e := 5) (by decide) ?_
        exact ⟨rfl, fun hv hA' => hQ _ _ (Rg.u hR (Pr_f rfl)) hA' (hv _ rfl) (fun ka ja hk => (uI_o (show ¬ (ka = 203 ∧ ja = 5) from by omega))) (show (¬ ((0 ≤ v0 ∧ v0 < I 1 1) ∧ 0 ≤ v1 ∧ v1 ≤ 5) → (-1000005) = -1000001) ∧ (((0 ≤ v0 ∧ v0 < I 1 1) ∧ 0 ≤ v1 ∧ v1 ≤ 5) → ((v1 = I (1 + 19 + 5 * Int.toNat v0) 0 ∨ v1 = 0 ∨ (I (1 + 19 + 5 * Int.toNat v0) 0 = 3 ∧ v1 = 1) ∨ (I (1 + 19 + 5 * Int.toNat v0) 0 = 5 ∧ v1 = 2)) → (-1000005) = I (1 + 19 + 5 * Int.toNat v0) 2) ∧ (¬ (v1 = I (1 + 19 + 5 * Int.toNat v0) 0 ∨ v1 = 0 ∨ (I (1 + 19 + 5 * Int.toNat v0) 0 = 3 ∧ v1 = 1) ∨ (I (1 + 19 + 5 * Int.toNat v0) 0 = 5 ∧ v1 = 2)) → (-1000005) = -1000005)) from by
                              refine ⟨fun z => ?_, fun z => ⟨fun f => ?_, fun f => ?_⟩⟩ <;> omega)⟩
      ·
        refine ⟨_, hp2.1.1, (by have := hp2.2; show _ < 254; omega), ?_⟩
        have a11 : -2147483648 ≤ (I (1 + 19 + 5 * Int.toNat v0) 2) ∧ (I (1 + 19 + 5 * Int.toNat v0) 2) < 2147483648 := hA.1 _ _
        exact ⟨rfl, fun hv hA' => hQ _ _ hR hA' (hv _ rfl) (fun _ _ _ => rfl) (show (¬ ((0 ≤ v0 ∧ v0 < I 1 1) ∧ 0 ≤ v1 ∧ v1 ≤ 5) → (I (1 + 19 + 5 * Int.toNat v0) 2) = -1000001) ∧ (((0 ≤ v0 ∧ v0 < I 1 1) ∧ 0 ≤ v1 ∧ v1 ≤ 5) → ((v1 = I (1 + 19 + 5 * Int.toNat v0) 0 ∨ v1 = 0 ∨ (I (1 + 19 + 5 * Int.toNat v0) 0 = 3 ∧ v1 = 1) ∨ (I (1 + 19 + 5 * Int.toNat v0) 0 = 5 ∧ v1 = 2)) → (I (1 + 19 + 5 * Int.toNat v0) 2) = I (1 + 19 + 5 * Int.toNat v0) 2) ∧ (¬ (v1 = I (1 + 19 + 5 * Int.toNat v0) 0 ∨ v1 = 0 ∨ (I (1 + 19 + 5 * Int.toNat v0) 0 = 3 ∧ v1 = 1) ∨ (I (1 + 19 + 5 * Int.toNat v0) 0 = 5 ∧ v1 = 2)) → (I (1 + 19 + 5 * Int.toNat v0) 2) = -1000005)) from by
                              refine ⟨fun z => ?_, fun z => ⟨fun f => ?_, fun f => ?_⟩⟩ <;> omega)⟩
    ·
      refine ⟨fun c => absurd (show ((0 : Int) = 0) from by decide) c, fun _ => ?_⟩
      refine ⟨⟨_, rfl, (by decide)⟩, ?_⟩
      refine s_X11_refuse hF (e := 1) (by decide) ?_
      exact ⟨rfl, fun hv hA' => hQ _ _ (Rg.u hR (Pr_f rfl)) hA' (hv _ rfl) (fun ka ja hk => (uI_o (show ¬ (ka = 203 ∧ ja = 1) from by omega))) (show (¬ ((0 ≤ v0 ∧ v0 < I 1 1) ∧ 0 ≤ v1 ∧ v1 ≤ 5) → (-1000001) = -1000001) ∧ (((0 ≤ v0 ∧ v0 < I 1 1) ∧ 0 ≤ v1 ∧ v1 ≤ 5) → ((v1 = I (1 + 19 + 5 * Int.toNat v0) 0 ∨ v1 = 0 ∨ (I (1 + 19 + 5 * Int.toNat v0) 0 = 3 ∧ v1 = 1) ∨ (I (1 + 19 + 5 * Int.toNat v0) 0 = 5 ∧ v1 = 2)) → (-1000001) = I (1 + 19 + 5 * Int.toNat v0) 2) ∧ (¬ (v1 = I (1 + 19 + 5 * Int.toNat v0) 0 ∨ v1 = 0 ∨ (I (1 + 19 + 5 * Int.toNat v0) 0 = 3 ∧ v1 = 1) ∨ (I (1 + 19 + 5 * Int.toNat v0) 0 = 5 ∧ v1 = 2)) → (-1000001) = -1000005)) from by
                              refine ⟨fun z => ?_, fun z => ⟨fun f => ?_, fun f => ?_⟩⟩ <;> omega)⟩
  ·
    refine ⟨⟨_, rfl, (by decide)⟩, ?_⟩
    refine s_X11_refuse hF (e := 1) (by decide) ?_
    exact ⟨rfl, fun hv hA' => hQ _ _ (Rg.u hR (Pr_f rfl)) hA' (hv _ rfl) (fun ka ja hk => (uI_o (show ¬ (ka = 203 ∧ ja = 1) from by omega))) (show (¬ ((0 ≤ v0 ∧ v0 < I 1 1) ∧ 0 ≤ v1 ∧ v1 ≤ 5) → (-1000001) = -1000001) ∧ (((0 ≤ v0 ∧ v0 < I 1 1) ∧ 0 ≤ v1 ∧ v1 ≤ 5) → ((v1 = I (1 + 19 + 5 * Int.toNat v0) 0 ∨ v1 = 0 ∨ (I (1 + 19 + 5 * Int.toNat v0) 0 = 3 ∧ v1 = 1) ∨ (I (1 + 19 + 5 * Int.toNat v0) 0 = 5 ∧ v1 = 2)) → (-1000001) = I (1 + 19 + 5 * Int.toNat v0) 2) ∧ (¬ (v1 = I (1 + 19 + 5 * Int.toNat v0) 0 ∨ v1 = 0 ∨ (I (1 + 19 + 5 * Int.toNat v0) 0 = 3 ∧ v1 = 1) ∨ (I (1 + 19 + 5 * Int.toNat v0) 0 = 5 ∧ v1 = 2)) → (-1000001) = -1000005)) from by
                              refine ⟨fun z => ?_, fun z => ⟨fun f => ?_, fun f => ?_⟩⟩ <;> omega)⟩
theorem r_as6_l (hF : FS F) (hR : Rg I) {v0 v1 : Int} (hp : 0 ≤ v0 ∧ v0 ≤ 13) (hw : 0 ≤ v1 ∧ v1 ≤ 5) (hQ : ∀ (r : Int) (I' : pI), Rg I' → (∀ k j, ¬ (k = 238) → I' k j = I k j) → (((v1 = (I 236 (Int.toNat (304 + 66 * v0))) ∨ v1 = 0 ∨ ((I 236 (Int.toNat (304 + 66 * v0))) = 3 ∧ v1 = 1) ∨ ((I 236 (Int.toNat (304 + 66 * v0))) = 5 ∧ v1 = 2)) → r = (I 236 (Int.toNat (306 + 66 * v0)))) ∧ (¬ (v1 = (I 236 (Int.toNat (304 + 66 * v0))) ∨ v1 = 0 ∨ ((I 236 (Int.toNat (304 + 66 * v0))) = 3 ∧ v1 = 1) ∨ ((I 236 (Int.toNat (304 + 66 * v0))) = 5 ∧ v1 = 2)) → r = -1000005)) → Q (some (vi r)) F I') : ∀ (mz : Nat) (k : Int) (J : pI), Rg J → (∀ k j, ¬ (k = 238) → J k j = I k j) → (((-1) : Int) ≤ k) → ((k : Int) ≤ 5) → ((0 ≤ k ∧ (v1 = k ∨ v1 = 0 ∨ (k = 3 ∧ v1 = 1) ∨ (k = 5 ∧ v1 = 2))) → (v1 = (I 236 (Int.toNat (304 + 66 * v0))) ∨ v1 = 0 ∨ ((I 236 (Int.toNat (304 + 66 * v0))) = 3 ∧ v1 = 1) ∨ ((I 236 (Int.toNat (304 + 66 * v0))) = 5 ∧ v1 = 2))) → ((v1 = (I 236 (Int.toNat (304 + 66 * v0))) ∨ v1 = 0 ∨ ((I 236 (Int.toNat (304 + 66 * v0))) = 3 ∧ v1 = 1) ∨ ((I 236 (Int.toNat (304 + 66 * v0))) = 5 ∧ v1 = 2)) → (0 ≤ k ∧ (v1 = k ∨ v1 = 0 ∨ (k = 3 ∧ v1 = 1) ∨ (k = 5 ∧ v1 = 2)))) → (k + 1).toNat < mz → GoN G (d + 1) kX12_as NP NP 32 [some (vr 235), some (vi v0), some (vi v1), some (vi k)] [] F J Q := by
  intro mz
  induction mz with
  | zero => intro k J hJ hV _ _ _ _ h; exact absurd h (Nat.not_lt_zero _)
  | succ mz ih =>
    intro k J hJ hV c100 c101 c102 c103 hm
    refine GoN_in (fun hok hA => ?_)
    have iiv0 : -2147483648 ≤ v0 ∧ v0 < 2147483648 := hok 1 _ rfl
    have iiv1 : -2147483648 ≤ v1 ∧ v1 < 2147483648 := hok 2 _ rfl
    have iik : -2147483648 ≤ k ∧ k < 2147483648 := hok 3 _ rfl
    refine Go_wp (by decide) ckX12_as [32] ?_
    refine ⟨fun (c1 : ((k : Int) < 0)) => ?_, fun (c1 : (¬ ((k : Int) < 0))) => ?_⟩
    ·
      refine ⟨fun c => absurd c (show (¬ ((0 : Int) ≤ k)) from by first | omega | (simp only [wr, wl] at *; omega)), fun _ => ?_⟩
      refine ⟨⟨_, rfl, (by decide)⟩, ?_⟩
      refine s_X12_finding hF (v := (-1000005)) (by decide) ?_
      exact ⟨rfl, hQ _ _ (Rg.u hJ (Pr_f rfl)) (fun ka ja hk => ((uI_o (show ¬ (ka = 238 ∧ ja = 5) from by omega))).trans ((hV ka ja (by omega)))) (show ((v1 = (I 236 (Int.toNat (304 + 66 * v0))) ∨ v1 = 0 ∨ ((I 236 (Int.toNat (304 + 66 * v0))) = 3 ∧ v1 = 1) ∨ ((I 236 (Int.toNat (304 + 66 * v0))) = 5 ∧ v1 = 2)) → (-1000005) = (I 236 (Int.toNat (306 + 66 * v0)))) ∧ (¬ (v1 = (I 236 (Int.toNat (304 + 66 * v0))) ∨ v1 = 0 ∨ ((I 236 (Int.toNat (304 + 66 * v0))) = 3 ∧ v1 = 1) ∨ ((I 236 (Int.toNat (304 + 66 * v0))) = 5 ∧ v1 = 2)) → (-1000005) = -1000005) from by
                              refine ⟨fun f => ?_, fun f => ?_⟩ <;> omega)⟩
    ·
      refine ⟨fun (c2 : ((k : Int) = v1)) => ?_, fun (c2 : (¬ ((k : Int) = v1))) => ?_⟩
      ·
        refine ⟨fun _ => ?_, fun c => absurd (show ((0 : Int) ≤ k) from by first | omega | (simp only [wr, wl] at *; omega)) c⟩
        refine ⟨⟨_, rfl, (by decide)⟩, ?_⟩
        refine r_of (p := v0) (f := 2) hF (j := (Int.toNat (306 + 66 * v0))) (by omega) (by omega) (by omega) (fun w3 hw4 => ?_)
        have u5 : (J 236 (Int.toNat (306 + 66 * v0))) = (I 236 (Int.toNat (306 + 66 * v0))) := hV _ _ (by first | omega | decide)
        have a6 : -2147483648 ≤ (J 236 (Int.toNat (306 + 66 * v0))) ∧ (J 236 (Int.toNat (306 + 66 * v0))) < 2147483648 := hA.1 _ _
        have hw4 : w3 = (J 236 (Int.toNat (306 + 66 * v0))) := hw4
        have a7 : -2147483648 ≤ (J 236 (Int.toNat (306 + 66 * v0))) ∧ (J 236 (Int.toNat (306 + 66 * v0))) < 2147483648 := hA.1 _ _
        exact ⟨rfl, hQ _ _ hJ (fun ka ja hk => (hV ka ja (by omega))) (show ((v1 = (I 236 (Int.toNat (304 + 66 * v0))) ∨ v1 = 0 ∨ ((I 236 (Int.toNat (304 + 66 * v0))) = 3 ∧ v1 = 1) ∨ ((I 236 (Int.toNat (304 + 66 * v0))) = 5 ∧ v1 = 2)) → w3 = (I 236 (Int.toNat (306 + 66 * v0)))) ∧ (¬ (v1 = (I 236 (Int.toNat (304 + 66 * v0))) ∨ v1 = 0 ∨ ((I 236 (Int.toNat (304 + 66 * v0))) = 3 ∧ v1 = 1) ∨ ((I 236 (Int.toNat (304 + 66 * v0))) = 5 ∧ v1 = 2)) → w3 = -1000005) from by
                              refine ⟨fun f => ?_, fun f => ?_⟩ <;> omega)⟩
      ·
        refine Call_wp (lv := [some (vi k)]) (by decide) ckX12_above [] rfl rfl ?_
        refine ⟨fun (c8 : (¬ (k : Int) = 0)) => ?_, fun (c8 : ((k : Int) = 0)) => ?_⟩
        ·
          refine ⟨fun (c9 : (¬ (k : Int) = 3)) => ?_, fun (c9 : ((k : Int) = 3)) => ?_⟩
          ·
            refine ⟨fun (c10 : (¬ (k : Int) = 5)) => ?_, fun (c10 : ((k : Int) = 5)) => ?_⟩
            ·
              refine ⟨rfl, ?_⟩
              exact ih 0 J hJ (fun ka ja hk => (hV ka ja (by omega))) (show ((-1) : Int) ≤ (0 : Int) from by first | omega | (simp only [wr, wl] at *; omega)) (show ((0 : Int) : Int) ≤ 5 from by first | omega | (simp only [wr, wl] at *; omega)) (show (0 ≤ (0 : Int) ∧ (v1 = (0 : Int) ∨ v1 = 0 ∨ ((0 : Int) = 3 ∧ v1 = 1) ∨ ((0 : Int) = 5 ∧ v1 = 2))) → (v1 = (I 236 (Int.toNat (304 + 66 * v0))) ∨ v1 = 0 ∨ ((I 236 (Int.toNat (304 + 66 * v0))) = 3 ∧ v1 = 1) ∨ ((I 236 (Int.toNat (304 + 66 * v0))) = 5 ∧ v1 = 2)) from by first | omega | (simp only [wr, wl] at *; omega)) (show (v1 = (I 236 (Int.toNat (304 + 66 * v0))) ∨ v1 = 0 ∨ ((I 236 (Int.toNat (304 + 66 * v0))) = 3 ∧ v1 = 1) ∨ ((I 236 (Int.toNat (304 + 66 * v0))) = 5 ∧ v1 = 2)) → (0 ≤ (0 : Int) ∧ (v1 = (0 : Int) ∨ v1 = 0 ∨ ((0 : Int) = 3 ∧ v1 = 1) ∨ ((0 : Int) = 5 ∧ v1 = 2))) from by first | omega | (simp only [wr, wl] at *; omega)) (show ((0 : Int) + 1).toNat < mz from by omega)
            ·
              refine ⟨rfl, ?_⟩
              exact ih 2 J hJ (fun ka ja hk => (hV ka ja (by omega))) (show ((-1) : Int) ≤ (2 : Int) from by first | omega | (simp only [wr, wl] at *; omega)) (show ((2 : Int) : Int) ≤ 5 from by first | omega | (simp only [wr, wl] at *; omega)) (show (0 ≤ (2 : Int) ∧ (v1 = (2 : Int) ∨ v1 = 0 ∨ ((2 : Int) = 3 ∧ v1 = 1) ∨ ((2 : Int) = 5 ∧ v1 = 2))) → (v1 = (I 236 (Int.toNat (304 + 66 * v0))) ∨ v1 = 0 ∨ ((I 236 (Int.toNat (304 + 66 * v0))) = 3 ∧ v1 = 1) ∨ ((I 236 (Int.toNat (304 + 66 * v0))) = 5 ∧ v1 = 2)) from by first | omega | (simp only [wr, wl] at *; omega)) (show (v1 = (I 236 (Int.toNat (304 + 66 * v0))) ∨ v1 = 0 ∨ ((I 236 (Int.toNat (304 + 66 * v0))) = 3 ∧ v1 = 1) ∨ ((I 236 (Int.toNat (304 + 66 * v0))) = 5 ∧ v1 = 2)) → (0 ≤ (2 : Int) ∧ (v1 = (2 : Int) ∨ v1 = 0 ∨ ((2 : Int) = 3 ∧ v1 = 1) ∨ ((2 : Int) = 5 ∧ v1 = 2))) from by first | omega | (simp only [wr, wl] at *; omega)) (show ((2 : Int) + 1).toNat < mz from by omega)
          ·
            refine ⟨rfl, ?_⟩
            exact ih 1 J hJ (fun ka ja hk => (hV ka ja (by omega))) (show ((-1) : Int) ≤ (1 : Int) from by first | omega | (simp only [wr, wl] at *; omega)) (show ((1 : Int) : Int) ≤ 5 from by first | omega | (simp only [wr, wl] at *; omega)) (show (0 ≤ (1 : Int) ∧ (v1 = (1 : Int) ∨ v1 = 0 ∨ ((1 : Int) = 3 ∧ v1 = 1) ∨ ((1 : Int) = 5 ∧ v1 = 2))) → (v1 = (I 236 (Int.toNat (304 + 66 * v0))) ∨ v1 = 0 ∨ ((I 236 (Int.toNat (304 + 66 * v0))) = 3 ∧ v1 = 1) ∨ ((I 236 (Int.toNat (304 + 66 * v0))) = 5 ∧ v1 = 2)) from by first | omega | (simp only [wr, wl] at *; omega)) (show (v1 = (I 236 (Int.toNat (304 + 66 * v0))) ∨ v1 = 0 ∨ ((I 236 (Int.toNat (304 + 66 * v0))) = 3 ∧ v1 = 1) ∨ ((I 236 (Int.toNat (304 + 66 * v0))) = 5 ∧ v1 = 2)) → (0 ≤ (1 : Int) ∧ (v1 = (1 : Int) ∨ v1 = 0 ∨ ((1 : Int) = 3 ∧ v1 = 1) ∨ ((1 : Int) = 5 ∧ v1 = 2))) from by first | omega | (simp only [wr, wl] at *; omega)) (show ((1 : Int) + 1).toNat < mz from by omega)
        ·
          refine ⟨rfl, ?_⟩
          exact ih (-1) J hJ (fun ka ja hk => (hV ka ja (by omega))) (show ((-1) : Int) ≤ ((-1) : Int) from by first | omega | (simp only [wr, wl] at *; omega)) (show (((-1) : Int) : Int) ≤ 5 from by first | omega | (simp only [wr, wl] at *; omega)) (show (0 ≤ ((-1) : Int) ∧ (v1 = ((-1) : Int) ∨ v1 = 0 ∨ (((-1) : Int) = 3 ∧ v1 = 1) ∨ (((-1) : Int) = 5 ∧ v1 = 2))) → (v1 = (I 236 (Int.toNat (304 + 66 * v0))) ∨ v1 = 0 ∨ ((I 236 (Int.toNat (304 + 66 * v0))) = 3 ∧ v1 = 1) ∨ ((I 236 (Int.toNat (304 + 66 * v0))) = 5 ∧ v1 = 2)) from by first | omega | (simp only [wr, wl] at *; omega)) (show (v1 = (I 236 (Int.toNat (304 + 66 * v0))) ∨ v1 = 0 ∨ ((I 236 (Int.toNat (304 + 66 * v0))) = 3 ∧ v1 = 1) ∨ ((I 236 (Int.toNat (304 + 66 * v0))) = 5 ∧ v1 = 2)) → (0 ≤ ((-1) : Int) ∧ (v1 = ((-1) : Int) ∨ v1 = 0 ∨ (((-1) : Int) = 3 ∧ v1 = 1) ∨ (((-1) : Int) = 5 ∧ v1 = 2))) from by first | omega | (simp only [wr, wl] at *; omega)) (show (((-1) : Int) + 1).toNat < mz from by omega)
theorem r_as6 (hF : FS F) (hR : Rg I) {v0 v1 : Int}  (hQ : ∀ (r : Int) (I' : pI), Rg I' → AR I' → iR r → (∀ k j, ¬ (k = 238) → I' k j = I k j) → ((¬ ((0 ≤ v0 ∧ v0 < I 236 0) ∧ 0 ≤ v1 ∧ v1 ≤ 5) → r = -1000001) ∧ (((0 ≤ v0 ∧ v0 < I 236 0) ∧ 0 ≤ v1 ∧ v1 ≤ 5) → ((v1 = (I 236 (Int.toNat (304 + 66 * v0))) ∨ v1 = 0 ∨ ((I 236 (Int.toNat (304 + 66 * v0))) = 3 ∧ v1 = 1) ∨ ((I 236 (Int.toNat (304 + 66 * v0))) = 5 ∧ v1 = 2)) → r = (I 236 (Int.toNat (306 + 66 * v0)))) ∧ (¬ (v1 = (I 236 (Int.toNat (304 + 66 * v0))) ∨ v1 = 0 ∨ ((I 236 (Int.toNat (304 + 66 * v0))) = 3 ∧ v1 = 1) ∨ ((I 236 (Int.toNat (304 + 66 * v0))) = 5 ∧ v1 = 2)) → r = -1000005))) → Q (some (vi r)) F I') : CallN G (d + 2) kX12_as [vr 235, vi v0, vi v1] NP F I Q := by
  refine CallN_in (fun hok hA => CallN_out ?_)
  have iv0 : -2147483648 ≤ v0 ∧ v0 < 2147483648 := hok (vi v0) (by simp)
  have iv1 : -2147483648 ≤ v1 ∧ v1 < 2147483648 := hok (vi v1) (by simp)
  refine Call_wp (lv := [some (vr 235), some (vi v0), some (vi v1), none]) (by decide) ckX12_as [32] rfl rfl ?_
  refine ⟨⟨_, rfl, (by decide)⟩, ?_⟩
  have r1 : 0 ≤ (I 236 0) ∧ (I 236 0) ≤ 14 := Rg.n0 hR
  refine s_X12_is hF (w := 0) (by decide) (show 0 ≤ (I 236 0) ∧ (I 236 0) < 1000000 from by omega) (fun (w2 : (0 ≤ v0 ∧ v0 < (I 236 0))) => ?_) (fun (w2 : ¬ (0 ≤ v0 ∧ v0 < (I 236 0))) => ?_)
  ·
    refine ⟨fun c => absurd c (show (¬ ((1 : Int) = 0)) from by decide), fun _ => ?_⟩
    refine s_X12_within (fun (w3 : ((0 : Int) ≤ v1 ∧ (v1 : Int) ≤ 5)) => ?_) (fun (w3 : ¬ ((0 : Int) ≤ v1 ∧ (v1 : Int) ≤ 5)) => ?_)
    ·
      refine ⟨fun _ => ?_, fun c => absurd c (show (¬ (1 : Int) = 0) from by decide)⟩
      refine ⟨⟨_, rfl, (by decide)⟩, ?_⟩
      refine r_of (p := v0) (f := 0) hF (j := (Int.toNat (304 + 66 * v0))) (by omega) (by omega) (by omega) (fun w4 hw5 => ?_)
      have r6 : 0 ≤ (I 236 (Int.toNat (304 + 66 * v0))) ∧ (I 236 (Int.toNat (304 + 66 * v0))) ≤ 5 := Pn_p0 (p := (Int.toNat v0)) (by omega) (by omega) (hR.n (Int.toNat (304 + 66 * v0)) (by omega))
      have hw5 : w4 = (I 236 (Int.toNat (304 + 66 * v0))) := hw5
      have a7 : -2147483648 ≤ (I 236 (Int.toNat (304 + 66 * v0))) ∧ (I 236 (Int.toNat (304 + 66 * v0))) < 2147483648 := hA.1 _ _
      refine r_as6_l hF hR (by omega) (by omega) (fun r I' g1 g2 g3 hv hA' => hQ _ _ g1 hA' (hv _ rfl) g2 ⟨fun z => absurd (by omega) z, fun _ => g3⟩) _ w4 I hR (fun _ _ _ => rfl) (show ((-1) : Int) ≤ w4 from by first | omega | (simp only [wr, wl] at *; omega)) (show (w4 : Int) ≤ 5 from by first | omega | (simp only [wr, wl] at *; omega)) (show (0 ≤ w4 ∧ (v1 = w4 ∨ v1 = 0 ∨ (w4 = 3 ∧ v1 = 1) ∨ (w4 = 5 ∧ v1 = 2))) → (v1 = (I 236 (Int.toNat (304 + 66 * v0))) ∨ v1 = 0 ∨ ((I 236 (Int.toNat (304 + 66 * v0))) = 3 ∧ v1 = 1) ∨ ((I 236 (Int.toNat (304 + 66 * v0))) = 5 ∧ v1 = 2)) from by first | omega | (simp only [wr, wl] at *; omega)) (show (v1 = (I 236 (Int.toNat (304 + 66 * v0))) ∨ v1 = 0 ∨ ((I 236 (Int.toNat (304 + 66 * v0))) = 3 ∧ v1 = 1) ∨ ((I 236 (Int.toNat (304 + 66 * v0))) = 5 ∧ v1 = 2)) → (0 ≤ w4 ∧ (v1 = w4 ∨ v1 = 0 ∨ (w4 = 3 ∧ v1 = 1) ∨ (w4 = 5 ∧ v1 = 2))) from by first | omega | (simp only [wr, wl] at *; omega)) (Nat.lt_succ_self _)
    ·
      refine ⟨fun c => absurd (show ((0 : Int) = 0) from by decide) c, fun _ => ?_⟩
      refine ⟨⟨_, rfl, (by decide)⟩, ?_⟩
      refine s_X12_finding hF (v := (-1000001)) (by decide) ?_
      exact ⟨rfl, fun hv hA' => hQ _ _ (Rg.u hR (Pr_f rfl)) hA' (hv _ rfl) (fun ka ja hk => (uI_o (show ¬ (ka = 238 ∧ ja = 1) from by omega))) (show (¬ ((0 ≤ v0 ∧ v0 < I 236 0) ∧ 0 ≤ v1 ∧ v1 ≤ 5) → (-1000001) = -1000001) ∧ (((0 ≤ v0 ∧ v0 < I 236 0) ∧ 0 ≤ v1 ∧ v1 ≤ 5) → ((v1 = (I 236 (Int.toNat (304 + 66 * v0))) ∨ v1 = 0 ∨ ((I 236 (Int.toNat (304 + 66 * v0))) = 3 ∧ v1 = 1) ∨ ((I 236 (Int.toNat (304 + 66 * v0))) = 5 ∧ v1 = 2)) → (-1000001) = (I 236 (Int.toNat (306 + 66 * v0)))) ∧ (¬ (v1 = (I 236 (Int.toNat (304 + 66 * v0))) ∨ v1 = 0 ∨ ((I 236 (Int.toNat (304 + 66 * v0))) = 3 ∧ v1 = 1) ∨ ((I 236 (Int.toNat (304 + 66 * v0))) = 5 ∧ v1 = 2)) → (-1000001) = -1000005)) from by
                              refine ⟨fun z => ?_, fun z => ⟨fun f => ?_, fun f => ?_⟩⟩ <;> omega)⟩
  ·
    refine ⟨fun _ => ?_, fun c => absurd (show ((0 : Int) = 0) from by decide) c⟩
    refine ⟨⟨_, rfl, (by decide)⟩, ?_⟩
    refine s_X12_finding hF (v := (-1000001)) (by decide) ?_
    exact ⟨rfl, fun hv hA' => hQ _ _ (Rg.u hR (Pr_f rfl)) hA' (hv _ rfl) (fun ka ja hk => (uI_o (show ¬ (ka = 238 ∧ ja = 1) from by omega))) (show (¬ ((0 ≤ v0 ∧ v0 < I 236 0) ∧ 0 ≤ v1 ∧ v1 ≤ 5) → (-1000001) = -1000001) ∧ (((0 ≤ v0 ∧ v0 < I 236 0) ∧ 0 ≤ v1 ∧ v1 ≤ 5) → ((v1 = (I 236 (Int.toNat (304 + 66 * v0))) ∨ v1 = 0 ∨ ((I 236 (Int.toNat (304 + 66 * v0))) = 3 ∧ v1 = 1) ∨ ((I 236 (Int.toNat (304 + 66 * v0))) = 5 ∧ v1 = 2)) → (-1000001) = (I 236 (Int.toNat (306 + 66 * v0)))) ∧ (¬ (v1 = (I 236 (Int.toNat (304 + 66 * v0))) ∨ v1 = 0 ∨ ((I 236 (Int.toNat (304 + 66 * v0))) = 3 ∧ v1 = 1) ∨ ((I 236 (Int.toNat (304 + 66 * v0))) = 5 ∧ v1 = 2)) → (-1000001) = -1000005)) from by
                              refine ⟨fun z => ?_, fun z => ⟨fun f => ?_, fun f => ?_⟩⟩ <;> omega)⟩
end AS
theorem as_e {I J : pI} {p k r r' : Int} (hR : Rg I) (h : LPc I) (eO : I 1 1 = I 236 0) (h4 : ∀ k j, 235 ≤ k → J k j = I k j)
    (c : (¬ ((0 ≤ p ∧ p < I 1 1) ∧ 0 ≤ k ∧ k ≤ 5) → r = -1000001) ∧ (((0 ≤ p ∧ p < I 1 1) ∧ 0 ≤ k ∧ k ≤ 5) → ((k = I (1 + 19 + 5 * Int.toNat p) 0 ∨ k = 0 ∨ (I (1 + 19 + 5 * Int.toNat p) 0 = 3 ∧ k = 1) ∨ (I (1 + 19 + 5 * Int.toNat p) 0 = 5 ∧ k = 2)) → r = I (1 + 19 + 5 * Int.toNat p) 2) ∧ (¬ (k = I (1 + 19 + 5 * Int.toNat p) 0 ∨ k = 0 ∨ (I (1 + 19 + 5 * Int.toNat p) 0 = 3 ∧ k = 1) ∨ (I (1 + 19 + 5 * Int.toNat p) 0 = 5 ∧ k = 2)) → r = -1000005))) (d : (¬ ((0 ≤ p ∧ p < J 236 0) ∧ 0 ≤ k ∧ k ≤ 5) → r' = -1000001) ∧ (((0 ≤ p ∧ p < J 236 0) ∧ 0 ≤ k ∧ k ≤ 5) → ((k = (J 236 (Int.toNat (304 + 66 * p))) ∨ k = 0 ∨ ((J 236 (Int.toNat (304 + 66 * p))) = 3 ∧ k = 1) ∨ ((J 236 (Int.toNat (304 + 66 * p))) = 5 ∧ k = 2)) → r' = (J 236 (Int.toNat (306 + 66 * p)))) ∧ (¬ (k = (J 236 (Int.toNat (304 + 66 * p))) ∨ k = 0 ∨ ((J 236 (Int.toNat (304 + 66 * p))) = 3 ∧ k = 1) ∨ ((J 236 (Int.toNat (304 + 66 * p))) = 5 ∧ k = 2)) → r' = -1000005))) : r = r' := by
  have n := Rg.n0 hR
  rw [h4 236 0 (by decide), ← eO] at d
  by_cases w : ((0 ≤ p ∧ p < I 1 1) ∧ 0 ≤ k ∧ k ≤ 5)
  · have e := (h (Int.toNat p) (by omega)).1
    rw [show 20 + 5 * Int.toNat p = 1 + 19 + 5 * Int.toNat p from by omega] at e
    have c1 := c.2 w
    have d1 := d.2 w
    rw [h4 236 _ (by decide), h4 236 _ (by decide), show Int.toNat (304 + 66 * p) = 304 + 66 * Int.toNat p from by omega, show Int.toNat (306 + 66 * p) = 304 + 66 * Int.toNat p + 2 from by omega, ← e.1, ← e.2.2.1] at d1
    by_cases f : (k = I (1 + 19 + 5 * Int.toNat p) 0 ∨ k = 0 ∨ (I (1 + 19 + 5 * Int.toNat p) 0 = 3 ∧ k = 1) ∨ (I (1 + 19 + 5 * Int.toNat p) 0 = 5 ∧ k = 2))
    · exact (c1.1 f).trans (d1.1 f).symm
    · exact (c1.2 f).trans (d1.2 f).symm
  · exact (c.1 w).trans (d.1 w).symm
