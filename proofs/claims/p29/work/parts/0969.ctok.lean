/-! what the class's reader says of a text's words. Own work (scripts laid by wip/pm/gen34.py). -/
section CW
variable {G : pG} {d : Nat} {F : pF} {I : pI} {Q : Option pV → pF → pI → Prop}
theorem c_next9_l2 (hF : FS F) (hR : Rg I) (hx : F 218 0 = some 5) {tt : Int → Int} {nn : Int} (hl : I 218 1 = nn) (ht : TXT tt nn (I 5)) (h3 : 0 ≤ I 218 3 ∧ I 218 3 ≤ nn) (hQ : ∀ (I' : pI), Rg I' → (∀ k j, ¬ (k = 218 ∧ 2 ≤ j) → I' k j = I k j) → ((I 218 3) ≤ (I' 218 2)) → ((I' 218 2) ≤ (I' 218 3)) → ((I' 218 3) ≤ nn) → ((I' 218 2) < nn → (I' 218 2) < (I' 218 3)) → (Tok tt nn (I 218 3) (I' 218 2) (I' 218 3)) → Q none F I') : ∀ (mz : Nat) (J : pI), Rg J → (∀ k j, ¬ (k = 218 ∧ 2 ≤ j) → J k j = I k j) → ((J 218 1) = nn) → (I 218 3 ≤ (J 218 2)) → ((J 218 2) < (J 218 3)) → ((J 218 3) ≤ nn) → (IsF tt nn (I 218 3) (J 218 2)) → (97 ≤ tt (J 218 2) ∧ tt (J 218 2) ≤ 122) → (∀ k : Int, (J 218 2) ≤ k → k < (J 218 3) → 97 ≤ tt k ∧ tt k ≤ 122) → (nn - (J 218 3)).toNat < mz → GoN G (d + 2) kX9_next NP NP 73 [some (vr 218)] [] F J Q := by
  intro mz
  induction mz with
  | zero => intro  J hJ hV _ _ _ _ _ _ _ h; exact absurd h (Nat.not_lt_zero _)
  | succ mz ih =>
    intro  J hJ hV c100 c101 c102 c103 c104 c105 c106 hm
    refine GoN_in (fun hok hA => ?_)
    have hn2 := ht.1
    have hz9 := TXT_z ht (J 218 3)
    have r1 : 0 ≤ (J 218 2) ∧ (J 218 2) ≤ 64 := (by omega)
    have r3 : 0 ≤ (J 218 3) ∧ (J 218 3) ≤ 64 := (by omega)
    have u5 : (J 218 1) = (I 218 1) := hV _ _ (by first | decide | omega)
    have a6 : -2147483648 ≤ (J 218 1) ∧ (J 218 1) < 2147483648 := hA.1 _ _
    refine Go_wp (by decide) ckX9_next [73] ?_
    refine ⟨_, rfl, (by decide), ?_⟩
    refine ⟨_, rfl, (by decide), ?_⟩
    refine ⟨fun (c7 : (((J 218 1) : Int) ≤ (J 218 3))) => ?_, fun (c7 : (¬ (((J 218 1) : Int) ≤ (J 218 3)))) => ?_⟩
    ·
      have r8 : 0 ≤ (I 218 3) ∧ (I 218 3) ≤ 64 := (by omega)
      exact ⟨rfl, hQ _ hJ (fun ka ja hk => (hV ka ja (by omega))) (show (I 218 3) ≤ (J 218 2) from by first | with_reducible assumption | omega | (simp only [wr, wl] at *; omega)) (show (J 218 2) ≤ (J 218 3) from by first | with_reducible assumption | omega | (simp only [wr, wl] at *; omega)) (show (J 218 3) ≤ nn from by first | with_reducible assumption | omega | (simp only [wr, wl] at *; omega)) (show (J 218 2) < nn → (J 218 2) < (J 218 3) from by first | with_reducible assumption | omega | (simp only [wr, wl] at *; omega)) (show Tok tt nn (I 218 3) (J 218 2) (J 218 3) from ⟨c104, ⟨by omega, by omega, by omega⟩, fun _ => ⟨c106, by omega⟩, fun h => absurd h (by omega), fun h => absurd c105 h⟩)⟩
    ·
      refine ⟨_, rfl, (by decide), ?_⟩
      refine ⟨⟨_, rfl, (by decide)⟩, ?_⟩
      have z9 := TXT_z ht (J 218 3)
      refine c_isLetter9 (v0 := (J 218 3)) hF hJ hx ((hV 218 1 (by first | decide | omega)).trans hl) (TXT_f ht (fun j => hV 5 j (by omega))) (fun vr10 hr11 q12 q13 q14 => ?_)
      have hr11 : -2147483648 ≤ vr10 ∧ vr10 < 2147483648 := hr11
      have q12 : 0 ≤ vr10 ∧ vr10 ≤ 1 := q12
      have q13 : vr10 = 1 → 97 ≤ tt ((J 218 3) : Int) ∧ tt ((J 218 3) : Int) ≤ 122 := q13
      have q14 : vr10 = 0 → ¬ (97 ≤ tt ((J 218 3) : Int) ∧ tt ((J 218 3) : Int) ≤ 122) := q14
      refine ⟨fun (c15 : ((vr10 : Int) = 0)) => ?_, fun (c15 : (¬ ((vr10 : Int) = 0))) => ?_⟩
      ·
        have r16 : 0 ≤ (I 218 3) ∧ (I 218 3) ≤ 64 := (by omega)
        exact ⟨rfl, hQ _ hJ (fun ka ja hk => (hV ka ja (by omega))) (show (I 218 3) ≤ (J 218 2) from by first | with_reducible assumption | omega | (simp only [wr, wl] at *; omega)) (show (J 218 2) ≤ (J 218 3) from by first | with_reducible assumption | omega | (simp only [wr, wl] at *; omega)) (show (J 218 3) ≤ nn from by first | with_reducible assumption | omega | (simp only [wr, wl] at *; omega)) (show (J 218 2) < nn → (J 218 2) < (J 218 3) from by first | with_reducible assumption | omega | (simp only [wr, wl] at *; omega)) (show Tok tt nn (I 218 3) (J 218 2) (J 218 3) from ⟨c104, ⟨by omega, by omega, by omega⟩, fun _ => ⟨c106, by omega⟩, fun h => absurd h (by omega), fun h => absurd c105 h⟩)⟩
      ·
        refine ⟨_, rfl, (by decide), ?_⟩
        refine ⟨_, rfl, (by decide), ?_⟩
        have n17 : (wr ((J 218 3) + 1)) = (J 218 3) + 1 := wr_id (show -2147483648 ≤ ((J 218 3) + 1 : Int) ∧ ((J 218 3) + 1 : Int) < 2147483648 from by omega)
        exact ih  (uI J 218 3 (wr ((J 218 3) + 1))) (Rg.u hJ (Pr_f rfl)) (fun ka ja hk => ((uI_o (show ¬ (ka = 218 ∧ ja = 3) from by first | (intro e; obtain ⟨rfl, rfl⟩ := e; exact hk (by decide)) | omega))).trans ((hV ka ja (by omega)))) (show (J 218 1) = nn from by first | omega | (simp only [wr, wl] at *; omega)) (show I 218 3 ≤ (J 218 2) from by first | with_reducible assumption | omega | (simp only [wr, wl] at *; omega)) (show (J 218 2) < (wr ((J 218 3) + 1)) from by first | with_reducible assumption | omega | (simp only [wr, wl] at *; omega)) (show (wr ((J 218 3) + 1)) ≤ nn from by first | with_reducible assumption | omega | (simp only [wr, wl] at *; omega)) (c104) (show 97 ≤ tt (J 218 2) ∧ tt (J 218 2) ≤ 122 from by first | omega | (simp only [wr, wl] at *; omega)) (show ∀ k : Int, (J 218 2) ≤ k → k < (wr ((J 218 3) + 1)) → 97 ≤ tt k ∧ tt k ≤ 122 from fun k h1 h2 => if e : k = J 218 3 then (by rw [e]; omega) else c106 k h1 (by omega)) (show (nn - (wr ((J 218 3) + 1))).toNat < mz from by omega)
theorem c_next9_l3 (hF : FS F) (hR : Rg I) (hx : F 218 0 = some 5) {tt : Int → Int} {nn : Int} (hl : I 218 1 = nn) (ht : TXT tt nn (I 5)) (h3 : 0 ≤ I 218 3 ∧ I 218 3 ≤ nn) (hQ : ∀ (I' : pI), Rg I' → (∀ k j, ¬ (k = 218 ∧ 2 ≤ j) → I' k j = I k j) → ((I 218 3) ≤ (I' 218 2)) → ((I' 218 2) ≤ (I' 218 3)) → ((I' 218 3) ≤ nn) → ((I' 218 2) < nn → (I' 218 2) < (I' 218 3)) → (Tok tt nn (I 218 3) (I' 218 2) (I' 218 3)) → Q none F I') : ∀ (mz : Nat) (J : pI), Rg J → (∀ k j, ¬ (k = 218 ∧ 2 ≤ j) → J k j = I k j) → ((J 218 1) = nn) → (I 218 3 ≤ (J 218 2)) → ((J 218 2) < (J 218 3)) → ((J 218 3) ≤ nn) → (IsF tt nn (I 218 3) (J 218 2)) → (48 ≤ tt (J 218 2) ∧ tt (J 218 2) ≤ 57) → (∀ k : Int, (J 218 2) ≤ k → k < (J 218 3) → 48 ≤ tt k ∧ tt k ≤ 57) → (nn - (J 218 3)).toNat < mz → GoN G (d + 2) kX9_next NP NP 119 [some (vr 218)] [] F J Q := by
  intro mz
  induction mz with
  | zero => intro  J hJ hV _ _ _ _ _ _ _ h; exact absurd h (Nat.not_lt_zero _)
  | succ mz ih =>
    intro  J hJ hV c100 c101 c102 c103 c104 c105 c106 hm
    refine GoN_in (fun hok hA => ?_)
    have hn2 := ht.1
    have hz9 := TXT_z ht (J 218 3)
    have r1 : 0 ≤ (J 218 2) ∧ (J 218 2) ≤ 64 := (by omega)
    have r3 : 0 ≤ (J 218 3) ∧ (J 218 3) ≤ 64 := (by omega)
    have u5 : (J 218 1) = (I 218 1) := hV _ _ (by first | decide | omega)
    have a6 : -2147483648 ≤ (J 218 1) ∧ (J 218 1) < 2147483648 := hA.1 _ _
    refine Go_wp (by decide) ckX9_next [119] ?_
    refine ⟨_, rfl, (by decide), ?_⟩
    refine ⟨_, rfl, (by decide), ?_⟩
    refine ⟨fun (c7 : (((J 218 1) : Int) ≤ (J 218 3))) => ?_, fun (c7 : (¬ (((J 218 1) : Int) ≤ (J 218 3)))) => ?_⟩
    ·
      have r8 : 0 ≤ (I 218 3) ∧ (I 218 3) ≤ 64 := (by omega)
      exact ⟨rfl, hQ _ hJ (fun ka ja hk => (hV ka ja (by omega))) (show (I 218 3) ≤ (J 218 2) from by first | with_reducible assumption | omega | (simp only [wr, wl] at *; omega)) (show (J 218 2) ≤ (J 218 3) from by first | with_reducible assumption | omega | (simp only [wr, wl] at *; omega)) (show (J 218 3) ≤ nn from by first | with_reducible assumption | omega | (simp only [wr, wl] at *; omega)) (show (J 218 2) < nn → (J 218 2) < (J 218 3) from by first | with_reducible assumption | omega | (simp only [wr, wl] at *; omega)) (show Tok tt nn (I 218 3) (J 218 2) (J 218 3) from ⟨c104, ⟨by omega, by omega, by omega⟩, fun h => absurd h (by omega), fun _ => ⟨c106, by omega⟩, fun _ h => absurd c105 h⟩)⟩
    ·
      refine ⟨_, rfl, (by decide), ?_⟩
      refine ⟨⟨_, rfl, (by decide)⟩, ?_⟩
      have z9 := TXT_z ht (J 218 3)
      refine c_isDigit9 (v0 := (J 218 3)) hF hJ hx ((hV 218 1 (by first | decide | omega)).trans hl) (TXT_f ht (fun j => hV 5 j (by omega))) (fun vr10 hr11 q12 q13 q14 => ?_)
      have hr11 : -2147483648 ≤ vr10 ∧ vr10 < 2147483648 := hr11
      have q12 : 0 ≤ vr10 ∧ vr10 ≤ 1 := q12
      have q13 : vr10 = 1 → 48 ≤ tt ((J 218 3) : Int) ∧ tt ((J 218 3) : Int) ≤ 57 := q13
      have q14 : vr10 = 0 → ¬ (48 ≤ tt ((J 218 3) : Int) ∧ tt ((J 218 3) : Int) ≤ 57) := q14
      refine ⟨fun (c15 : ((vr10 : Int) = 0)) => ?_, fun (c15 : (¬ ((vr10 : Int) = 0))) => ?_⟩
      ·
        have r16 : 0 ≤ (I 218 3) ∧ (I 218 3) ≤ 64 := (by omega)
        exact ⟨rfl, hQ _ hJ (fun ka ja hk => (hV ka ja (by omega))) (show (I 218 3) ≤ (J 218 2) from by first | with_reducible assumption | omega | (simp only [wr, wl] at *; omega)) (show (J 218 2) ≤ (J 218 3) from by first | with_reducible assumption | omega | (simp only [wr, wl] at *; omega)) (show (J 218 3) ≤ nn from by first | with_reducible assumption | omega | (simp only [wr, wl] at *; omega)) (show (J 218 2) < nn → (J 218 2) < (J 218 3) from by first | with_reducible assumption | omega | (simp only [wr, wl] at *; omega)) (show Tok tt nn (I 218 3) (J 218 2) (J 218 3) from ⟨c104, ⟨by omega, by omega, by omega⟩, fun h => absurd h (by omega), fun _ => ⟨c106, by omega⟩, fun _ h => absurd c105 h⟩)⟩
      ·
        refine ⟨_, rfl, (by decide), ?_⟩
        refine ⟨_, rfl, (by decide), ?_⟩
        have n17 : (wr ((J 218 3) + 1)) = (J 218 3) + 1 := wr_id (show -2147483648 ≤ ((J 218 3) + 1 : Int) ∧ ((J 218 3) + 1 : Int) < 2147483648 from by omega)
        exact ih  (uI J 218 3 (wr ((J 218 3) + 1))) (Rg.u hJ (Pr_f rfl)) (fun ka ja hk => ((uI_o (show ¬ (ka = 218 ∧ ja = 3) from by first | (intro e; obtain ⟨rfl, rfl⟩ := e; exact hk (by decide)) | omega))).trans ((hV ka ja (by omega)))) (show (J 218 1) = nn from by first | omega | (simp only [wr, wl] at *; omega)) (show I 218 3 ≤ (J 218 2) from by first | with_reducible assumption | omega | (simp only [wr, wl] at *; omega)) (show (J 218 2) < (wr ((J 218 3) + 1)) from by first | with_reducible assumption | omega | (simp only [wr, wl] at *; omega)) (show (wr ((J 218 3) + 1)) ≤ nn from by first | with_reducible assumption | omega | (simp only [wr, wl] at *; omega)) (c104) (show 48 ≤ tt (J 218 2) ∧ tt (J 218 2) ≤ 57 from by first | omega | (simp only [wr, wl] at *; omega)) (show ∀ k : Int, (J 218 2) ≤ k → k < (wr ((J 218 3) + 1)) → 48 ≤ tt k ∧ tt k ≤ 57 from fun k h1 h2 => if e : k = J 218 3 then (by rw [e]; omega) else c106 k h1 (by omega)) (show (nn - (wr ((J 218 3) + 1))).toNat < mz from by omega)
theorem c_next9_l1 (hF : FS F) (hR : Rg I) (hx : F 218 0 = some 5) {tt : Int → Int} {nn : Int} (hl : I 218 1 = nn) (ht : TXT tt nn (I 5)) (h3 : 0 ≤ I 218 3 ∧ I 218 3 ≤ nn) (hQ : ∀ (I' : pI), Rg I' → (∀ k j, ¬ (k = 218 ∧ 2 ≤ j) → I' k j = I k j) → ((I 218 3) ≤ (I' 218 2)) → ((I' 218 2) ≤ (I' 218 3)) → ((I' 218 3) ≤ nn) → ((I' 218 2) < nn → (I' 218 2) < (I' 218 3)) → (Tok tt nn (I 218 3) (I' 218 2) (I' 218 3)) → Q none F I') : ∀ (mz : Nat) (J : pI), Rg J → (∀ k j, ¬ (k = 218 ∧ 2 ≤ j) → J k j = I k j) → ((J 218 1) = nn) → (I 218 3 ≤ (J 218 2)) → ((J 218 2) ≤ nn) → (∀ k : Int, I 218 3 ≤ k → k < (J 218 2) → tt k = 32) → (nn - (J 218 2)).toNat < mz → GoN G (d + 2) kX9_next NP NP 8 [some (vr 218)] [] F J Q := by
  intro mz
  induction mz with
  | zero => intro  J hJ hV _ _ _ _ h; exact absurd h (Nat.not_lt_zero _)
  | succ mz ih =>
    intro  J hJ hV c100 c101 c102 c103 hm
    refine GoN_in (fun hok hA => ?_)
    have hn2 := ht.1
    have r1 : 0 ≤ (J 218 2) ∧ (J 218 2) ≤ 64 := (by omega)
    have u3 : (J 218 1) = (I 218 1) := hV _ _ (by first | decide | omega)
    have a4 : -2147483648 ≤ (J 218 1) ∧ (J 218 1) < 2147483648 := hA.1 _ _
    refine Go_wp (by decide) ckX9_next [8, 73, 119] ?_
    refine ⟨_, rfl, (by decide), ?_⟩
    refine ⟨_, rfl, (by decide), ?_⟩
    refine ⟨fun (c5 : (((J 218 1) : Int) ≤ (J 218 2))) => ?_, fun (c5 : (¬ (((J 218 1) : Int) ≤ (J 218 2)))) => ?_⟩
    ·
      refine ⟨_, rfl, (by decide), ?_⟩
      refine ⟨_, rfl, (by decide), ?_⟩
      have n6 : (wr ((J 218 2) + 1)) = (J 218 2) + 1 := wr_id (show -2147483648 ≤ ((J 218 2) + 1 : Int) ∧ ((J 218 2) + 1 : Int) < 2147483648 from by omega)
      refine j_min (fun w7 h8 h9 h10 => ?_)
      refine ⟨_, rfl, (by decide), ?_⟩
      refine ⟨_, rfl, (by decide), ?_⟩
      refine ⟨⟨_, rfl, (by decide)⟩, ?_⟩
      have z11 := TXT_z ht (J 218 2)
      refine c_isLetter9 (v0 := (J 218 2)) hF (Rg.u hJ (Pr_f rfl)) hx (((uJ_ne (show ¬ 1 = 3 from Nat.ne_of_beq_eq_false rfl)).trans (hV 218 1 (by first | decide | omega))).trans hl) (TXT_f ht (fun j => (uI_o (show ¬ (5 = 218 ∧ j = 3) from fun e => absurd e.1 (Nat.ne_of_beq_eq_false rfl))).trans (hV 5 j (by omega)))) (fun vr12 hr13 q14 q15 q16 => ?_)
      have hr13 : -2147483648 ≤ vr12 ∧ vr12 < 2147483648 := hr13
      have q14 : 0 ≤ vr12 ∧ vr12 ≤ 1 := q14
      have q15 : vr12 = 1 → 97 ≤ tt ((J 218 2) : Int) ∧ tt ((J 218 2) : Int) ≤ 122 := q15
      have q16 : vr12 = 0 → ¬ (97 ≤ tt ((J 218 2) : Int) ∧ tt ((J 218 2) : Int) ≤ 122) := q16
      refine ⟨fun (c17 : ((vr12 : Int) = 0)) => ?_, fun (c17 : (¬ ((vr12 : Int) = 0))) => ?_⟩
      ·
        refine ⟨_, rfl, (by decide), ?_⟩
        refine ⟨⟨_, rfl, (by decide)⟩, ?_⟩
        have z18 := TXT_z ht (J 218 2)
        refine c_isDigit9 (v0 := (J 218 2)) hF (Rg.u hJ (Pr_f rfl)) hx (((uJ_ne (show ¬ 1 = 3 from Nat.ne_of_beq_eq_false rfl)).trans (hV 218 1 (by first | decide | omega))).trans hl) (TXT_f ht (fun j => (uI_o (show ¬ (5 = 218 ∧ j = 3) from fun e => absurd e.1 (Nat.ne_of_beq_eq_false rfl))).trans (hV 5 j (by omega)))) (fun vr19 hr20 q21 q22 q23 => ?_)
        have hr20 : -2147483648 ≤ vr19 ∧ vr19 < 2147483648 := hr20
        have q21 : 0 ≤ vr19 ∧ vr19 ≤ 1 := q21
        have q22 : vr19 = 1 → 48 ≤ tt ((J 218 2) : Int) ∧ tt ((J 218 2) : Int) ≤ 57 := q22
        have q23 : vr19 = 0 → ¬ (48 ≤ tt ((J 218 2) : Int) ∧ tt ((J 218 2) : Int) ≤ 57) := q23
        refine ⟨fun (c24 : ((vr19 : Int) = 0)) => ?_, fun (c24 : (¬ ((vr19 : Int) = 0))) => ?_⟩
        ·
          have r25 : 0 ≤ (I 218 3) ∧ (I 218 3) ≤ 64 := (by omega)
          exact ⟨rfl, hQ _ (Rg.u hJ (Pr_f rfl)) (fun ka ja hk => ((uI_o (show ¬ (ka = 218 ∧ ja = 3) from by first | (intro e; obtain ⟨rfl, rfl⟩ := e; exact hk (by decide)) | omega))).trans ((hV ka ja (by omega)))) (show (I 218 3) ≤ (J 218 2) from by first | with_reducible assumption | omega | (simp only [wr, wl] at *; omega)) (show (J 218 2) ≤ w7 from by first | with_reducible assumption | omega | (simp only [wr, wl] at *; omega)) (show w7 ≤ nn from by first | with_reducible assumption | omega | (simp only [wr, wl] at *; omega)) (show (J 218 2) < nn → (J 218 2) < w7 from by first | with_reducible assumption | omega | (simp only [wr, wl] at *; omega)) (show Tok tt nn (I 218 3) (J 218 2) w7 from ⟨⟨⟨by omega, by omega⟩, c103, by omega⟩, ⟨by omega, by omega, by omega⟩, fun h => absurd h (by omega), fun h => absurd h (by omega), fun _ _ => (by split <;> omega)⟩)⟩
        ·
          refine c_next9_l3 hF hR hx hl ht h3 hQ _  (uI J 218 3 w7) (Rg.u hJ (Pr_f rfl)) (fun ka ja hk => ((uI_o (show ¬ (ka = 218 ∧ ja = 3) from by first | (intro e; obtain ⟨rfl, rfl⟩ := e; exact hk (by decide)) | omega))).trans ((hV ka ja (by omega)))) (show (J 218 1) = nn from by first | omega | (simp only [wr, wl] at *; omega)) (show I 218 3 ≤ (J 218 2) from by first | with_reducible assumption | omega | (simp only [wr, wl] at *; omega)) (show (J 218 2) < w7 from by first | with_reducible assumption | omega | (simp only [wr, wl] at *; omega)) (show w7 ≤ nn from by first | with_reducible assumption | omega | (simp only [wr, wl] at *; omega)) ((show IsF tt nn (I 218 3) (J 218 2) from ⟨⟨by omega, by omega⟩, c103, by omega⟩)) (show 48 ≤ tt (J 218 2) ∧ tt (J 218 2) ≤ 57 from by first | omega | (simp only [wr, wl] at *; omega)) (show ∀ k : Int, (J 218 2) ≤ k → k < w7 → 48 ≤ tt k ∧ tt k ≤ 57 from fun k h1 h2 => (by
                              have e : k = (J 218 2) := by omega
                              rw [e]; omega)) (Nat.lt_succ_self _)
      ·
        refine c_next9_l2 hF hR hx hl ht h3 hQ _  (uI J 218 3 w7) (Rg.u hJ (Pr_f rfl)) (fun ka ja hk => ((uI_o (show ¬ (ka = 218 ∧ ja = 3) from by first | (intro e; obtain ⟨rfl, rfl⟩ := e; exact hk (by decide)) | omega))).trans ((hV ka ja (by omega)))) (show (J 218 1) = nn from by first | omega | (simp only [wr, wl] at *; omega)) (show I 218 3 ≤ (J 218 2) from by first | with_reducible assumption | omega | (simp only [wr, wl] at *; omega)) (show (J 218 2) < w7 from by first | with_reducible assumption | omega | (simp only [wr, wl] at *; omega)) (show w7 ≤ nn from by first | with_reducible assumption | omega | (simp only [wr, wl] at *; omega)) ((show IsF tt nn (I 218 3) (J 218 2) from ⟨⟨by omega, by omega⟩, c103, by omega⟩)) (show 97 ≤ tt (J 218 2) ∧ tt (J 218 2) ≤ 122 from by first | omega | (simp only [wr, wl] at *; omega)) (show ∀ k : Int, (J 218 2) ≤ k → k < w7 → 97 ≤ tt k ∧ tt k ≤ 122 from fun k h1 h2 => (by
                              have e : k = (J 218 2) := by omega
                              rw [e]; omega)) (Nat.lt_succ_self _)
    ·
      refine ⟨_, rfl, (by decide), ?_⟩
      refine ⟨⟨_, rfl, (by decide)⟩, ?_⟩
      have z26 := TXT_z ht (J 218 2)
      refine c_byteAt9 (v0 := (J 218 2)) hF hJ hx ((hV 218 1 (by first | decide | omega)).trans hl) (TXT_f ht (fun j => hV 5 j (by omega))) (fun vr27 hr28 q29 q30 => ?_)
      have hr28 : -2147483648 ≤ vr27 ∧ vr27 < 2147483648 := hr28
      have q29 : 32 ≤ vr27 ∧ vr27 ≤ 122 → tt ((J 218 2) : Int) = vr27 := q29
      have q30 : ¬ (32 ≤ vr27 ∧ vr27 ≤ 122) → tt ((J 218 2) : Int) = 0 := q30
      refine ⟨fun (c31 : (¬ (vr27 : Int) = 32)) => ?_, fun (c31 : ((vr27 : Int) = 32)) => ?_⟩
      ·
        refine ⟨_, rfl, (by decide), ?_⟩
        refine ⟨_, rfl, (by decide), ?_⟩
        have n32 : (wr ((J 218 2) + 1)) = (J 218 2) + 1 := wr_id (show -2147483648 ≤ ((J 218 2) + 1 : Int) ∧ ((J 218 2) + 1 : Int) < 2147483648 from by omega)
        refine j_min (fun w33 h34 h35 h36 => ?_)
        refine ⟨_, rfl, (by decide), ?_⟩
        refine ⟨_, rfl, (by decide), ?_⟩
        refine ⟨⟨_, rfl, (by decide)⟩, ?_⟩
        have z37 := TXT_z ht (J 218 2)
        refine c_isLetter9 (v0 := (J 218 2)) hF (Rg.u hJ (Pr_f rfl)) hx (((uJ_ne (show ¬ 1 = 3 from Nat.ne_of_beq_eq_false rfl)).trans (hV 218 1 (by first | decide | omega))).trans hl) (TXT_f ht (fun j => (uI_o (show ¬ (5 = 218 ∧ j = 3) from fun e => absurd e.1 (Nat.ne_of_beq_eq_false rfl))).trans (hV 5 j (by omega)))) (fun vr38 hr39 q40 q41 q42 => ?_)
        have hr39 : -2147483648 ≤ vr38 ∧ vr38 < 2147483648 := hr39
        have q40 : 0 ≤ vr38 ∧ vr38 ≤ 1 := q40
        have q41 : vr38 = 1 → 97 ≤ tt ((J 218 2) : Int) ∧ tt ((J 218 2) : Int) ≤ 122 := q41
        have q42 : vr38 = 0 → ¬ (97 ≤ tt ((J 218 2) : Int) ∧ tt ((J 218 2) : Int) ≤ 122) := q42
        refine ⟨fun (c43 : ((vr38 : Int) = 0)) => ?_, fun (c43 : (¬ ((vr38 : Int) = 0))) => ?_⟩
        ·
          refine ⟨_, rfl, (by decide), ?_⟩
          refine ⟨⟨_, rfl, (by decide)⟩, ?_⟩
          have z44 := TXT_z ht (J 218 2)
          refine c_isDigit9 (v0 := (J 218 2)) hF (Rg.u hJ (Pr_f rfl)) hx (((uJ_ne (show ¬ 1 = 3 from Nat.ne_of_beq_eq_false rfl)).trans (hV 218 1 (by first | decide | omega))).trans hl) (TXT_f ht (fun j => (uI_o (show ¬ (5 = 218 ∧ j = 3) from fun e => absurd e.1 (Nat.ne_of_beq_eq_false rfl))).trans (hV 5 j (by omega)))) (fun vr45 hr46 q47 q48 q49 => ?_)
          have hr46 : -2147483648 ≤ vr45 ∧ vr45 < 2147483648 := hr46
          have q47 : 0 ≤ vr45 ∧ vr45 ≤ 1 := q47
          have q48 : vr45 = 1 → 48 ≤ tt ((J 218 2) : Int) ∧ tt ((J 218 2) : Int) ≤ 57 := q48
          have q49 : vr45 = 0 → ¬ (48 ≤ tt ((J 218 2) : Int) ∧ tt ((J 218 2) : Int) ≤ 57) := q49
          refine ⟨fun (c50 : ((vr45 : Int) = 0)) => ?_, fun (c50 : (¬ ((vr45 : Int) = 0))) => ?_⟩
          ·
            have r51 : 0 ≤ (I 218 3) ∧ (I 218 3) ≤ 64 := (by omega)
            exact ⟨rfl, hQ _ (Rg.u hJ (Pr_f rfl)) (fun ka ja hk => ((uI_o (show ¬ (ka = 218 ∧ ja = 3) from by first | (intro e; obtain ⟨rfl, rfl⟩ := e; exact hk (by decide)) | omega))).trans ((hV ka ja (by omega)))) (show (I 218 3) ≤ (J 218 2) from by first | with_reducible assumption | omega | (simp only [wr, wl] at *; omega)) (show (J 218 2) ≤ w33 from by first | with_reducible assumption | omega | (simp only [wr, wl] at *; omega)) (show w33 ≤ nn from by first | with_reducible assumption | omega | (simp only [wr, wl] at *; omega)) (show (J 218 2) < nn → (J 218 2) < w33 from by first | with_reducible assumption | omega | (simp only [wr, wl] at *; omega)) (show Tok tt nn (I 218 3) (J 218 2) w33 from ⟨⟨⟨by omega, by omega⟩, c103, by omega⟩, ⟨by omega, by omega, by omega⟩, fun h => absurd h (by omega), fun h => absurd h (by omega), fun _ _ => (by split <;> omega)⟩)⟩
          ·
            refine c_next9_l3 hF hR hx hl ht h3 hQ _  (uI J 218 3 w33) (Rg.u hJ (Pr_f rfl)) (fun ka ja hk => ((uI_o (show ¬ (ka = 218 ∧ ja = 3) from by first | (intro e; obtain ⟨rfl, rfl⟩ := e; exact hk (by decide)) | omega))).trans ((hV ka ja (by omega)))) (show (J 218 1) = nn from by first | omega | (simp only [wr, wl] at *; omega)) (show I 218 3 ≤ (J 218 2) from by first | with_reducible assumption | omega | (simp only [wr, wl] at *; omega)) (show (J 218 2) < w33 from by first | with_reducible assumption | omega | (simp only [wr, wl] at *; omega)) (show w33 ≤ nn from by first | with_reducible assumption | omega | (simp only [wr, wl] at *; omega)) ((show IsF tt nn (I 218 3) (J 218 2) from ⟨⟨by omega, by omega⟩, c103, by omega⟩)) (show 48 ≤ tt (J 218 2) ∧ tt (J 218 2) ≤ 57 from by first | omega | (simp only [wr, wl] at *; omega)) (show ∀ k : Int, (J 218 2) ≤ k → k < w33 → 48 ≤ tt k ∧ tt k ≤ 57 from fun k h1 h2 => (by
                              have e : k = (J 218 2) := by omega
                              rw [e]; omega)) (Nat.lt_succ_self _)
        ·
          refine c_next9_l2 hF hR hx hl ht h3 hQ _  (uI J 218 3 w33) (Rg.u hJ (Pr_f rfl)) (fun ka ja hk => ((uI_o (show ¬ (ka = 218 ∧ ja = 3) from by first | (intro e; obtain ⟨rfl, rfl⟩ := e; exact hk (by decide)) | omega))).trans ((hV ka ja (by omega)))) (show (J 218 1) = nn from by first | omega | (simp only [wr, wl] at *; omega)) (show I 218 3 ≤ (J 218 2) from by first | with_reducible assumption | omega | (simp only [wr, wl] at *; omega)) (show (J 218 2) < w33 from by first | with_reducible assumption | omega | (simp only [wr, wl] at *; omega)) (show w33 ≤ nn from by first | with_reducible assumption | omega | (simp only [wr, wl] at *; omega)) ((show IsF tt nn (I 218 3) (J 218 2) from ⟨⟨by omega, by omega⟩, c103, by omega⟩)) (show 97 ≤ tt (J 218 2) ∧ tt (J 218 2) ≤ 122 from by first | omega | (simp only [wr, wl] at *; omega)) (show ∀ k : Int, (J 218 2) ≤ k → k < w33 → 97 ≤ tt k ∧ tt k ≤ 122 from fun k h1 h2 => (by
                              have e : k = (J 218 2) := by omega
                              rw [e]; omega)) (Nat.lt_succ_self _)
      ·
        refine ⟨_, rfl, (by decide), ?_⟩
        refine ⟨_, rfl, (by decide), ?_⟩
        have n52 : (wr ((J 218 2) + 1)) = (J 218 2) + 1 := wr_id (show -2147483648 ≤ ((J 218 2) + 1 : Int) ∧ ((J 218 2) + 1 : Int) < 2147483648 from by omega)
        exact ih  (uI J 218 2 (wr ((J 218 2) + 1))) (Rg.u hJ (Pr_f rfl)) (fun ka ja hk => ((uI_o (show ¬ (ka = 218 ∧ ja = 2) from by first | (intro e; obtain ⟨rfl, rfl⟩ := e; exact hk (by decide)) | omega))).trans ((hV ka ja (by omega)))) (show (J 218 1) = nn from by first | omega | (simp only [wr, wl] at *; omega)) (show I 218 3 ≤ (wr ((J 218 2) + 1)) from by first | with_reducible assumption | omega | (simp only [wr, wl] at *; omega)) (show (wr ((J 218 2) + 1)) ≤ nn from by first | with_reducible assumption | omega | (simp only [wr, wl] at *; omega)) (show ∀ k : Int, I 218 3 ≤ k → k < (wr ((J 218 2) + 1)) → tt k = 32 from fun k h1 h2 => if e : k = J 218 2 then (by rw [e]; omega) else c103 k h1 (by omega)) (show (nn - (wr ((J 218 2) + 1))).toNat < mz from by omega)
theorem c_next9 (hF : FS F) (hR : Rg I) (hx : F 218 0 = some 5) {tt : Int → Int} {nn : Int} (hl : I 218 1 = nn) (ht : TXT tt nn (I 5)) (h3 : 0 ≤ I 218 3 ∧ I 218 3 ≤ nn) (hQ : ∀ (I' : pI), Rg I' → AR I' → (∀ k j, ¬ (k = 218 ∧ 2 ≤ j) → I' k j = I k j) → ((I 218 3) ≤ (I' 218 2)) → ((I' 218 2) ≤ (I' 218 3)) → ((I' 218 3) ≤ nn) → ((I' 218 2) < nn → (I' 218 2) < (I' 218 3)) → (Tok tt nn (I 218 3) (I' 218 2) (I' 218 3)) → Q none F I') : CallN G (d + 2) kX9_next [vr 218] NP F I Q := by
  refine CallN_in (fun hok hA => CallN_out ?_)
  have hn2 := ht.1
  refine Call_wp (lv := [some (vr 218)]) (by decide) ckX9_next [8] rfl rfl ?_
  refine ⟨_, rfl, (by decide), ?_⟩
  have r1 : 0 ≤ (I 218 3) ∧ (I 218 3) ≤ 64 := (by omega)
  refine ⟨_, rfl, (by decide), ?_⟩
  have a3 : -2147483648 ≤ (I 218 1) ∧ (I 218 1) < 2147483648 := hA.1 _ _
  refine c_next9_l1 hF hR hx hl ht h3 (fun I' g1 g2 g3 g4 g5 g6 g7 hv hA' => hQ _ g1 hA' g2 g3 g4 g5 g6 g7) _  (uI I 218 2 (I 218 3)) (Rg.u hR (Pr_f rfl)) (fun ka ja hk => (uI_o (show ¬ (ka = 218 ∧ ja = 2) from by first | (intro e; obtain ⟨rfl, rfl⟩ := e; exact hk (by decide)) | omega))) (show (I 218 1) = nn from by first | omega | (simp only [wr, wl] at *; omega)) (show I 218 3 ≤ (I 218 3) from by first | with_reducible assumption | omega | (simp only [wr, wl] at *; omega)) (show (I 218 3) ≤ nn from by first | with_reducible assumption | omega | (simp only [wr, wl] at *; omega)) (show ∀ k : Int, I 218 3 ≤ k → k < (I 218 3) → tt k = 32 from fun k h1 h2 => absurd h2 (by omega)) (Nat.lt_succ_self _)
theorem c_actHere9 (hF : FS F) (hR : Rg I) (hx : F 218 0 = some 5) {tt : Int → Int} {nn : Int} (hl : I 218 1 = nn) (ht : TXT tt nn (I 5)) (hb : 0 ≤ I 218 2 ∧ I 218 2 ≤ I 218 3 ∧ I 218 3 ≤ nn) (hQ : ∀ r : Int, iR r → (-1 ≤ r ∧ r ≤ 5) → (0 ≤ r → (I 218 2) + 2 ≤ (I 218 3)) → (r = 4 → (I 218 2) + 4 ≤ (I 218 3)) → (r = aF tt (I 218 2) (I 218 3)) → Q (some (vi r)) F I) : CallN G (d + 5) kX9_actHere [vr 218] NP F I Q := by
  refine CallN_in (fun hok hA => CallN_out ?_)
  have hn2 := ht.1
  refine Call_wp (lv := [some (vr 218), none]) (by decide) ckX9_actHere [] rfl rfl ?_
  refine ⟨fun c => absurd c (show (¬ ((5 : Int) < 0)) from by decide), fun _ => ?_⟩
  refine Call_wp (lv := [some (vi 0)]) (by decide) ckX9_wordOf [] rfl rfl ?_
  refine ⟨fun _ => ?_, fun c => absurd (show ((0 : Int) = 0) from by decide) c⟩
  refine ⟨rfl, ?_⟩
  refine ⟨⟨_, rfl, (by decide)⟩, ?_⟩
  have r1 : 0 ≤ (I 218 2) ∧ (I 218 2) ≤ 64 := (by omega)
  have r3 : 0 ≤ (I 218 3) ∧ (I 218 3) ≤ 64 := (by omega)
  refine c_mk9_1 hF hR hx (hl) ht (show 0 ≤ (I 218 2) ∧ (I 218 2) ≤ (I 218 3) ∧ (I 218 3) ≤ nn from by first | omega | (simp only [wr, wl] at *; omega)) (fun (w5 : mkW1 tt (I 218 2) (I 218 3)) l6 => ?_) (fun (w5 : ¬ mkW1 tt (I 218 2) (I 218 3)) => ?_)
  ·
    have l6 : (I 218 3) - (I 218 2) = 2 := l6
    refine ⟨fun c => absurd c (show (¬ ((1 : Int) = 0)) from by decide), fun _ => ?_⟩
    exact ⟨rfl, fun hv hA' => hQ _ (hv _ rfl) (show -1 ≤ 0 ∧ 0 ≤ 5 from by decide) (show 0 ≤ 0 → (I 218 2) + 2 ≤ (I 218 3) from by first | with_reducible assumption | omega | (simp only [wr, wl] at *; omega)) (show 0 = 4 → (I 218 2) + 4 ≤ (I 218 3) from by first | with_reducible assumption | omega | (simp only [wr, wl] at *; omega)) (show 0 = _ from (aF_1 w5).symm)⟩
  ·
    refine ⟨fun _ => ?_, fun c => absurd (show ((0 : Int) = 0) from by decide) c⟩
    refine ⟨fun c => absurd c (show (¬ ((5 : Int) < 1)) from by decide), fun _ => ?_⟩
    refine Call_wp (lv := [some (vi 1)]) (by decide) ckX9_wordOf [] rfl rfl ?_
    refine ⟨fun c => absurd c (show (¬ ((1 : Int) = 0)) from by decide), fun _ => ?_⟩
    refine ⟨fun _ => ?_, fun c => absurd (show ((1 : Int) = 1) from by decide) c⟩
    refine ⟨rfl, ?_⟩
    refine ⟨⟨_, rfl, (by decide)⟩, ?_⟩
    refine c_mk9_2 hF hR hx (hl) ht (show 0 ≤ (I 218 2) ∧ (I 218 2) ≤ (I 218 3) ∧ (I 218 3) ≤ nn from by first | omega | (simp only [wr, wl] at *; omega)) (fun (w7 : mkW2 tt (I 218 2) (I 218 3)) l8 => ?_) (fun (w7 : ¬ mkW2 tt (I 218 2) (I 218 3)) => ?_)
    ·
      have l8 : (I 218 3) - (I 218 2) = 4 := l8
      refine ⟨fun c => absurd c (show (¬ ((1 : Int) = 0)) from by decide), fun _ => ?_⟩
      exact ⟨rfl, fun hv hA' => hQ _ (hv _ rfl) (show -1 ≤ 1 ∧ 1 ≤ 5 from by decide) (show 0 ≤ 1 → (I 218 2) + 2 ≤ (I 218 3) from by first | with_reducible assumption | omega | (simp only [wr, wl] at *; omega)) (show 1 = 4 → (I 218 2) + 4 ≤ (I 218 3) from by first | with_reducible assumption | omega | (simp only [wr, wl] at *; omega)) (show 1 = _ from (aF_2 w5 w7).symm)⟩
    ·
      refine ⟨fun _ => ?_, fun c => absurd (show ((0 : Int) = 0) from by decide) c⟩
      refine ⟨fun c => absurd c (show (¬ ((5 : Int) < 2)) from by decide), fun _ => ?_⟩
      refine Call_wp (lv := [some (vi 2)]) (by decide) ckX9_wordOf [] rfl rfl ?_
      refine ⟨fun c => absurd c (show (¬ ((2 : Int) = 0)) from by decide), fun _ => ?_⟩
      refine ⟨fun c => absurd c (show (¬ ((2 : Int) = 1)) from by decide), fun _ => ?_⟩
      refine ⟨fun _ => ?_, fun c => absurd (show ((2 : Int) = 2) from by decide) c⟩
      refine ⟨rfl, ?_⟩
      refine ⟨⟨_, rfl, (by decide)⟩, ?_⟩
      refine c_mk9_3 hF hR hx (hl) ht (show 0 ≤ (I 218 2) ∧ (I 218 2) ≤ (I 218 3) ∧ (I 218 3) ≤ nn from by first | omega | (simp only [wr, wl] at *; omega)) (fun (w9 : mkW3 tt (I 218 2) (I 218 3)) l10 => ?_) (fun (w9 : ¬ mkW3 tt (I 218 2) (I 218 3)) => ?_)
      ·
        have l10 : (I 218 3) - (I 218 2) = 4 := l10
        refine ⟨fun c => absurd c (show (¬ ((1 : Int) = 0)) from by decide), fun _ => ?_⟩
        exact ⟨rfl, fun hv hA' => hQ _ (hv _ rfl) (show -1 ≤ 2 ∧ 2 ≤ 5 from by decide) (show 0 ≤ 2 → (I 218 2) + 2 ≤ (I 218 3) from by first | with_reducible assumption | omega | (simp only [wr, wl] at *; omega)) (show 2 = 4 → (I 218 2) + 4 ≤ (I 218 3) from by first | with_reducible assumption | omega | (simp only [wr, wl] at *; omega)) (show 2 = _ from (aF_3 w5 w7 w9).symm)⟩
      ·
        refine ⟨fun _ => ?_, fun c => absurd (show ((0 : Int) = 0) from by decide) c⟩
        refine ⟨fun c => absurd c (show (¬ ((5 : Int) < 3)) from by decide), fun _ => ?_⟩
        refine Call_wp (lv := [some (vi 3)]) (by decide) ckX9_wordOf [] rfl rfl ?_
        refine ⟨fun c => absurd c (show (¬ ((3 : Int) = 0)) from by decide), fun _ => ?_⟩
        refine ⟨fun c => absurd c (show (¬ ((3 : Int) = 1)) from by decide), fun _ => ?_⟩
        refine ⟨fun c => absurd c (show (¬ ((3 : Int) = 2)) from by decide), fun _ => ?_⟩
        refine ⟨fun _ => ?_, fun c => absurd (show ((3 : Int) = 3) from by decide) c⟩
        refine ⟨rfl, ?_⟩
        refine ⟨⟨_, rfl, (by decide)⟩, ?_⟩
        refine c_mk9_4 hF hR hx (hl) ht (show 0 ≤ (I 218 2) ∧ (I 218 2) ≤ (I 218 3) ∧ (I 218 3) ≤ nn from by first | omega | (simp only [wr, wl] at *; omega)) (fun (w11 : mkW4 tt (I 218 2) (I 218 3)) l12 => ?_) (fun (w11 : ¬ mkW4 tt (I 218 2) (I 218 3)) => ?_)
        ·
          have l12 : (I 218 3) - (I 218 2) = 4 := l12
          refine ⟨fun c => absurd c (show (¬ ((1 : Int) = 0)) from by decide), fun _ => ?_⟩
          exact ⟨rfl, fun hv hA' => hQ _ (hv _ rfl) (show -1 ≤ 3 ∧ 3 ≤ 5 from by decide) (show 0 ≤ 3 → (I 218 2) + 2 ≤ (I 218 3) from by first | with_reducible assumption | omega | (simp only [wr, wl] at *; omega)) (show 3 = 4 → (I 218 2) + 4 ≤ (I 218 3) from by first | with_reducible assumption | omega | (simp only [wr, wl] at *; omega)) (show 3 = _ from (aF_4 w5 w7 w9 w11).symm)⟩
        ·
          refine ⟨fun _ => ?_, fun c => absurd (show ((0 : Int) = 0) from by decide) c⟩
          refine ⟨fun c => absurd c (show (¬ ((5 : Int) < 4)) from by decide), fun _ => ?_⟩
          refine Call_wp (lv := [some (vi 4)]) (by decide) ckX9_wordOf [] rfl rfl ?_
          refine ⟨fun c => absurd c (show (¬ ((4 : Int) = 0)) from by decide), fun _ => ?_⟩
          refine ⟨fun c => absurd c (show (¬ ((4 : Int) = 1)) from by decide), fun _ => ?_⟩
          refine ⟨fun c => absurd c (show (¬ ((4 : Int) = 2)) from by decide), fun _ => ?_⟩
          refine ⟨fun c => absurd c (show (¬ ((4 : Int) = 3)) from by decide), fun _ => ?_⟩
          refine ⟨fun _ => ?_, fun c => absurd (show ((4 : Int) = 4) from by decide) c⟩
          refine ⟨rfl, ?_⟩
          refine ⟨⟨_, rfl, (by decide)⟩, ?_⟩
          refine c_mk9_5 hF hR hx (hl) ht (show 0 ≤ (I 218 2) ∧ (I 218 2) ≤ (I 218 3) ∧ (I 218 3) ≤ nn from by first | omega | (simp only [wr, wl] at *; omega)) (fun (w13 : mkW5 tt (I 218 2) (I 218 3)) l14 => ?_) (fun (w13 : ¬ mkW5 tt (I 218 2) (I 218 3)) => ?_)
          ·
            have l14 : (I 218 3) - (I 218 2) = 4 := l14
            refine ⟨fun c => absurd c (show (¬ ((1 : Int) = 0)) from by decide), fun _ => ?_⟩
            exact ⟨rfl, fun hv hA' => hQ _ (hv _ rfl) (show -1 ≤ 4 ∧ 4 ≤ 5 from by decide) (show 0 ≤ 4 → (I 218 2) + 2 ≤ (I 218 3) from by first | with_reducible assumption | omega | (simp only [wr, wl] at *; omega)) (show 4 = 4 → (I 218 2) + 4 ≤ (I 218 3) from by first | with_reducible assumption | omega | (simp only [wr, wl] at *; omega)) (show 4 = _ from (aF_5 w5 w7 w9 w11 w13).symm)⟩
          ·
            refine ⟨fun _ => ?_, fun c => absurd (show ((0 : Int) = 0) from by decide) c⟩
            refine ⟨fun c => absurd c (show (¬ ((5 : Int) < 5)) from by decide), fun _ => ?_⟩
            refine Call_wp (lv := [some (vi 5)]) (by decide) ckX9_wordOf [] rfl rfl ?_
            refine ⟨fun c => absurd c (show (¬ ((5 : Int) = 0)) from by decide), fun _ => ?_⟩
            refine ⟨fun c => absurd c (show (¬ ((5 : Int) = 1)) from by decide), fun _ => ?_⟩
            refine ⟨fun c => absurd c (show (¬ ((5 : Int) = 2)) from by decide), fun _ => ?_⟩
            refine ⟨fun c => absurd c (show (¬ ((5 : Int) = 3)) from by decide), fun _ => ?_⟩
            refine ⟨fun c => absurd c (show (¬ ((5 : Int) = 4)) from by decide), fun _ => ?_⟩
            refine ⟨rfl, ?_⟩
            refine ⟨⟨_, rfl, (by decide)⟩, ?_⟩
            refine c_mk9_6 hF hR hx (hl) ht (show 0 ≤ (I 218 2) ∧ (I 218 2) ≤ (I 218 3) ∧ (I 218 3) ≤ nn from by first | omega | (simp only [wr, wl] at *; omega)) (fun (w15 : mkW6 tt (I 218 2) (I 218 3)) l16 => ?_) (fun (w15 : ¬ mkW6 tt (I 218 2) (I 218 3)) => ?_)
            ·
              have l16 : (I 218 3) - (I 218 2) = 4 := l16
              refine ⟨fun c => absurd c (show (¬ ((1 : Int) = 0)) from by decide), fun _ => ?_⟩
              exact ⟨rfl, fun hv hA' => hQ _ (hv _ rfl) (show -1 ≤ 5 ∧ 5 ≤ 5 from by decide) (show 0 ≤ 5 → (I 218 2) + 2 ≤ (I 218 3) from by first | with_reducible assumption | omega | (simp only [wr, wl] at *; omega)) (show 5 = 4 → (I 218 2) + 4 ≤ (I 218 3) from by first | with_reducible assumption | omega | (simp only [wr, wl] at *; omega)) (show 5 = _ from (aF_6 w5 w7 w9 w11 w13 w15).symm)⟩
            ·
              refine ⟨fun _ => ?_, fun c => absurd (show ((0 : Int) = 0) from by decide) c⟩
              refine ⟨fun _ => ?_, fun c => absurd (show ((5 : Int) < 6) from by decide) c⟩
              exact ⟨rfl, fun hv hA' => hQ _ (hv _ rfl) (show -1 ≤ (-1) ∧ (-1) ≤ 5 from by first | omega | (simp only [wr, wl] at *; omega)) (show 0 ≤ (-1) → (I 218 2) + 2 ≤ (I 218 3) from by first | with_reducible assumption | omega | (simp only [wr, wl] at *; omega)) (show (-1) = 4 → (I 218 2) + 4 ≤ (I 218 3) from by first | with_reducible assumption | omega | (simp only [wr, wl] at *; omega)) (show (-1) = _ from (aF_7 w5 w7 w9 w11 w13 w15).symm)⟩
theorem c_numb9_l (hF : FS F) (hR : Rg I) (hx : F 218 0 = some 5) {tt : Int → Int} {nn : Int} (hl : I 218 1 = nn) (ht : TXT tt nn (I 5)) (hb : 0 ≤ I 218 2 ∧ I 218 2 ≤ I 218 3 ∧ I 218 3 ≤ nn) (hT : IsT tt nn (I 218 2) (I 218 3)) (hQ : ∀ (r : Int) , (-1 ≤ r ∧ r ≤ 9999) → (0 ≤ r → (I 218 2) + 1 ≤ (I 218 3)) → (r = nF tt (I 218 2) (I 218 3)) → Q (some (vi r)) F I) : ∀ (mz : Nat) (v i : Int) , ((0 : Int) ≤ v) → ((v : Int) ≤ 9999) → ((0 : Int) ≤ i) → ((i : Int) ≤ 64) → ((I 218 2) ≤ i) → (i ≤ (I 218 3)) → ((I 218 3) - (I 218 2) ≤ 4) → ((I 218 2) < (I 218 3)) → (v = vF tt (I 218 2) (Int.toNat (i - (I 218 2)))) → (∀ k : Int, (I 218 2) ≤ k → k < i → 48 ≤ tt k ∧ tt k ≤ 57) → ((I 218 3) - i).toNat < mz → GoN G (d + 2) kX9_numberHere NP NP 33 [some (vr 218), some (vi v), some (vi i)] [] F I Q := by
  intro mz
  induction mz with
  | zero => intro v i _ _ _ _ _ _ _ _ _ _ h; exact absurd h (Nat.not_lt_zero _)
  | succ mz ih =>
    intro v i c100 c101 c102 c103 c104 c105 c106 c107 c108 c109 hm
    refine GoN_in (fun hok hA => ?_)
    have iiv : -2147483648 ≤ v ∧ v < 2147483648 := hok 1 _ rfl
    have iii : -2147483648 ≤ i ∧ i < 2147483648 := hok 2 _ rfl
    have hn2 := ht.1
    have hv := vF_b (t := tt) (a := I 218 2) (m := Int.toNat (i - I 218 2)) (fun k h1 h2 => c109 k h1 (by omega))
    rw [← c108] at hv
    have r1 : 0 ≤ (I 218 2) ∧ (I 218 2) ≤ 64 := (by omega)
    have r3 : 0 ≤ (I 218 3) ∧ (I 218 3) ≤ 64 := (by omega)
    refine Go_wp (by decide) ckX9_numberHere [33] ?_
    refine ⟨_, rfl, (by decide), ?_⟩
    refine ⟨fun (c5 : (((I 218 3) : Int) ≤ i)) => ?_, fun (c5 : (¬ (((I 218 3) : Int) ≤ i))) => ?_⟩
    ·
      exact ⟨rfl, hQ _ (show -1 ≤ v ∧ v ≤ 9999 from by first | omega | (simp only [wr, wl] at *; omega)) (show 0 ≤ v → (I 218 2) + 1 ≤ (I 218 3) from by first | with_reducible assumption | omega | (simp only [wr, wl] at *; omega)) ((by
                              have e : i = I 218 3 := by omega
                              have d := c109 (I 218 2) (by omega) (by omega)
                              unfold nF; rw [if_pos ⟨d, by omega⟩, ← e]; exact c108))⟩
    ·
      refine ⟨⟨_, rfl, (by decide)⟩, ?_⟩
      have z6 := TXT_z ht i
      refine c_isDigit9 (v0 := i) hF hR hx (hl) ht (fun vr7 hr8 q9 q10 q11 => ?_)
      have hr8 : -2147483648 ≤ vr7 ∧ vr7 < 2147483648 := hr8
      have q9 : 0 ≤ vr7 ∧ vr7 ≤ 1 := q9
      have q10 : vr7 = 1 → 48 ≤ tt (i : Int) ∧ tt (i : Int) ≤ 57 := q10
      have q11 : vr7 = 0 → ¬ (48 ≤ tt (i : Int) ∧ tt (i : Int) ≤ 57) := q11
      refine ⟨fun (c12 : (¬ (vr7 : Int) = 0)) => ?_, fun (c12 : ((vr7 : Int) = 0)) => ?_⟩
      ·
        refine ⟨⟨_, rfl, (by decide)⟩, ?_⟩
        have z13 := TXT_z ht i
        refine c_byteAt9 (v0 := i) hF hR hx (hl) ht (fun vr14 hr15 q16 q17 => ?_)
        have hr15 : -2147483648 ≤ vr14 ∧ vr14 < 2147483648 := hr15
        have q16 : 32 ≤ vr14 ∧ vr14 ≤ 122 → tt (i : Int) = vr14 := q16
        have q17 : ¬ (32 ≤ vr14 ∧ vr14 ≤ 122) → tt (i : Int) = 0 := q17
        have n18 : (wr (10 * v)) = 10 * v := wr_id (show -2147483648 ≤ (10 * v : Int) ∧ (10 * v : Int) < 2147483648 from by omega)
        have n19 : (wr ((wr (10 * v)) + vr14)) = (wr (10 * v)) + vr14 := wr_id (show -2147483648 ≤ ((wr (10 * v)) + vr14 : Int) ∧ ((wr (10 * v)) + vr14 : Int) < 2147483648 from by omega)
        have n20 : (wr ((wr ((wr (10 * v)) + vr14)) - 48)) = (wr ((wr (10 * v)) + vr14)) - 48 := wr_id (show -2147483648 ≤ ((wr ((wr (10 * v)) + vr14)) - 48 : Int) ∧ ((wr ((wr (10 * v)) + vr14)) - 48 : Int) < 2147483648 from by omega)
        have n21 : (wr (i + 1)) = i + 1 := wr_id (show -2147483648 ≤ (i + 1 : Int) ∧ (i + 1 : Int) < 2147483648 from by omega)
        exact ih (wr ((wr ((wr (10 * v)) + vr14)) - 48)) (wr (i + 1))  (show (0 : Int) ≤ (wr ((wr ((wr (10 * v)) + vr14)) - 48)) from by first | with_reducible assumption | omega | (simp only [wr, wl] at *; omega)) (show ((wr ((wr ((wr (10 * v)) + vr14)) - 48)) : Int) ≤ 9999 from by first | with_reducible assumption | omega | (simp only [wr, wl] at *; omega)) (show (0 : Int) ≤ (wr (i + 1)) from by first | with_reducible assumption | omega | (simp only [wr, wl] at *; omega)) (show ((wr (i + 1)) : Int) ≤ 64 from by first | with_reducible assumption | omega | (simp only [wr, wl] at *; omega)) (show (I 218 2) ≤ (wr (i + 1)) from by first | with_reducible assumption | omega | (simp only [wr, wl] at *; omega)) (show (wr (i + 1)) ≤ (I 218 3) from by first | with_reducible assumption | omega | (simp only [wr, wl] at *; omega)) (show (I 218 3) - (I 218 2) ≤ 4 from by first | with_reducible assumption | omega | (simp only [wr, wl] at *; omega)) (show (I 218 2) < (I 218 3) from by first | with_reducible assumption | omega | (simp only [wr, wl] at *; omega)) ((by
                              rw [show Int.toNat ((wr (i + 1)) - (I 218 2)) = Int.toNat (i - I 218 2) + 1 from by omega]
                              show _ = 10 * vF tt (I 218 2) (Int.toNat (i - I 218 2)) + tt (I 218 2 + (Int.toNat (i - I 218 2) : Nat)) - 48
                              rw [show I 218 2 + ((Int.toNat (i - I 218 2) : Nat) : Int) = i from by omega, ← c108]; omega)) (fun k h1 h2 => if e : k = i then (by rw [e]; omega) else c109 k h1 (by omega)) (show ((I 218 3) - (wr (i + 1))).toNat < mz from by omega)
      ·
        exact ⟨rfl, hQ _ (show -1 ≤ (-1) ∧ (-1) ≤ 9999 from by first | omega | (simp only [wr, wl] at *; omega)) (show 0 ≤ (-1) → (I 218 2) + 1 ≤ (I 218 3) from by first | with_reducible assumption | omega | (simp only [wr, wl] at *; omega)) ((by
                              unfold nF; rw [if_neg (fun h => ?_)]
                              have z := (hT.2.2.1 h.1).1 i (by omega) (by omega)
                              omega))⟩
theorem c_numb9 (hF : FS F) (hR : Rg I) (hx : F 218 0 = some 5) {tt : Int → Int} {nn : Int} (hl : I 218 1 = nn) (ht : TXT tt nn (I 5)) (hb : 0 ≤ I 218 2 ∧ I 218 2 ≤ I 218 3 ∧ I 218 3 ≤ nn) (hT : IsT tt nn (I 218 2) (I 218 3)) (hQ : ∀ r : Int, iR r → (-1 ≤ r ∧ r ≤ 9999) → (0 ≤ r → (I 218 2) + 1 ≤ (I 218 3)) → (r = nF tt (I 218 2) (I 218 3)) → Q (some (vi r)) F I) : CallN G (d + 2) kX9_numberHere [vr 218] NP F I Q := by
  refine CallN_in (fun hok hA => CallN_out ?_)
  have hn2 := ht.1
  have hz9 := TXT_z ht (I 218 2)
  refine Call_wp (lv := [some (vr 218), none, none]) (by decide) ckX9_numberHere [33] rfl rfl ?_
  refine ⟨_, rfl, (by decide), ?_⟩
  have r1 : 0 ≤ (I 218 3) ∧ (I 218 3) ≤ 64 := (by omega)
  refine ⟨_, rfl, (by decide), ?_⟩
  have r2 : 0 ≤ (I 218 2) ∧ (I 218 2) ≤ 64 := (by omega)
  refine ⟨fun (c5 : (((I 218 3) : Int) ≤ (I 218 2))) => ?_, fun (c5 : (¬ (((I 218 3) : Int) ≤ (I 218 2)))) => ?_⟩
  ·
    exact ⟨rfl, fun hv hA' => hQ _ (hv _ rfl) (show -1 ≤ (-1) ∧ (-1) ≤ 9999 from by first | omega | (simp only [wr, wl] at *; omega)) (show 0 ≤ (-1) → (I 218 2) + 1 ≤ (I 218 3) from by first | with_reducible assumption | omega | (simp only [wr, wl] at *; omega)) ((by
                              unfold nF; rw [if_neg (fun h => ?_)]
                              have z := hT.1.2.2
                              omega))⟩
  ·
    refine ⟨_, rfl, (by decide), ?_⟩
    refine ⟨_, rfl, (by decide), ?_⟩
    have n6 : (wr ((I 218 3) - (I 218 2))) = (I 218 3) - (I 218 2) := wr_id (show -2147483648 ≤ ((I 218 3) - (I 218 2) : Int) ∧ ((I 218 3) - (I 218 2) : Int) < 2147483648 from by omega)
    refine ⟨fun (c7 : (((wr ((I 218 3) - (I 218 2))) : Int) ≤ 4)) => ?_, fun (c7 : (¬ (((wr ((I 218 3) - (I 218 2))) : Int) ≤ 4))) => ?_⟩
    ·
      refine ⟨_, rfl, (by decide), ?_⟩
      refine c_numb9_l hF hR hx hl ht hb hT (fun r g3 g4 g5 hv hA' => hQ _ (hv _ rfl) g3 g4 g5) _ 0 (I 218 2)  (show (0 : Int) ≤ (0 : Int) from Int.le_refl _) (show ((0 : Int) : Int) ≤ 9999 from by first | with_reducible assumption | omega | (simp only [wr, wl] at *; omega)) (show (0 : Int) ≤ (I 218 2) from by first | with_reducible assumption | omega | (simp only [wr, wl] at *; omega)) (show ((I 218 2) : Int) ≤ 64 from by first | with_reducible assumption | omega | (simp only [wr, wl] at *; omega)) (show (I 218 2) ≤ (I 218 2) from Int.le_refl _) (show (I 218 2) ≤ (I 218 3) from by first | with_reducible assumption | omega | (simp only [wr, wl] at *; omega)) (show (I 218 3) - (I 218 2) ≤ 4 from by first | with_reducible assumption | omega | (simp only [wr, wl] at *; omega)) (show (I 218 2) < (I 218 3) from by first | with_reducible assumption | omega | (simp only [wr, wl] at *; omega)) ((by rw [show Int.toNat ((I 218 2) - (I 218 2)) = 0 from by omega]; rfl)) (fun k h1 h2 => absurd h2 (by omega)) (Nat.lt_succ_self _)
    ·
      exact ⟨rfl, fun hv hA' => hQ _ (hv _ rfl) (show -1 ≤ (-1) ∧ (-1) ≤ 9999 from by first | omega | (simp only [wr, wl] at *; omega)) (show 0 ≤ (-1) → (I 218 2) + 1 ≤ (I 218 3) from by first | with_reducible assumption | omega | (simp only [wr, wl] at *; omega)) ((by
                              unfold nF; rw [if_neg (fun h => ?_)]
                              have z := hT.1.2.2
                              omega))⟩
end CW
