/-! the marks, as the class's reader sees them. Own work (scripts laid by wip/pm/gen34.py). -/
section CM9
variable {G : pG} {d : Nat} {F : pF} {I : pI} {Q : Option pV → pF → pI → Prop}
theorem c_byteAt9 (hF : FS F) (hR : Rg I) {v0 : Int} (hx : F 218 0 = some 5) {tt : Int → Int} {nn : Int} (hl : I 218 1 = nn) (ht : TXT tt nn (I 5)) (hQ : ∀ r : Int, iR r → (32 ≤ r ∧ r ≤ 122 → tt v0 = r) → (¬ (32 ≤ r ∧ r ≤ 122) → tt v0 = 0) → Q (some (vi r)) F I) : CallN G d kX9_byteAt [vr 218, vi v0] NP F I Q := by
  refine CallN_in (fun hok hA => CallN_out ?_)
  have iv0 : -2147483648 ≤ v0 ∧ v0 < 2147483648 := hok (vi v0) (by simp)
  have hn2 := ht.1
  have hb := TXT_b ht v0
  refine Call_wp (lv := [some (vr 218), some (vi v0)]) (by decide) ckX9_byteAt [] rfl rfl ?_
  refine ⟨fun (c1 : ((v0 : Int) < 0)) => ?_, fun (c1 : (¬ ((v0 : Int) < 0))) => ?_⟩
  ·
    exact ⟨rfl, fun hv hA' => hQ _ (hv _ rfl) (show 32 ≤ (-1) ∧ (-1) ≤ 122 → tt v0 = (-1) from by first | with_reducible assumption | omega | (simp only [wr, wl] at *; omega)) (show ¬ (32 ≤ (-1) ∧ (-1) ≤ 122) → tt v0 = 0 from by first | with_reducible assumption | omega | (simp only [wr, wl] at *; omega))⟩
  ·
    refine ⟨_, rfl, (by decide), ?_⟩
    have a2 : -2147483648 ≤ (I 218 1) ∧ (I 218 1) < 2147483648 := hA.1 _ _
    refine ⟨fun (c3 : (((I 218 1) : Int) ≤ v0)) => ?_, fun (c3 : (¬ (((I 218 1) : Int) ≤ v0))) => ?_⟩
    ·
      exact ⟨rfl, fun hv hA' => hQ _ (hv _ rfl) (show 32 ≤ (-1) ∧ (-1) ≤ 122 → tt v0 = (-1) from by first | with_reducible assumption | omega | (simp only [wr, wl] at *; omega)) (show ¬ (32 ≤ (-1) ∧ (-1) ≤ 122) → tt v0 = 0 from by first | with_reducible assumption | omega | (simp only [wr, wl] at *; omega))⟩
    ·
      refine ⟨_, rfl, (by decide), ?_⟩
      refine fun w0 hw0 => ?_; obtain rfl : w0 = some 5 := hw0.symm.trans hx
      refine ⟨_, _, (by decide), rfl, (by decide), ?_⟩
      refine ⟨fun (c4 : ((64 : Int) ≤ v0)) => ?_, fun (c4 : (¬ ((64 : Int) ≤ v0))) => ?_⟩
      ·
        exact ⟨rfl, fun hv hA' => hQ _ (hv _ rfl) (show 32 ≤ (-1) ∧ (-1) ≤ 122 → tt v0 = (-1) from by first | with_reducible assumption | omega | (simp only [wr, wl] at *; omega)) (show ¬ (32 ≤ (-1) ∧ (-1) ≤ 122) → tt v0 = 0 from by first | with_reducible assumption | omega | (simp only [wr, wl] at *; omega))⟩
      ·
        refine ⟨_, rfl, (by decide), ?_⟩
        refine fun w0 hw0 => ?_; obtain rfl : w0 = some 5 := hw0.symm.trans hx
        refine ⟨_, rfl, (by decide), (show (0 : Int) ≤ v0 from by first | with_reducible assumption | omega | (simp only [wr, wl] at *; omega)), (show v0 < (64 : Int) from by first | with_reducible assumption | omega | (simp only [wr, wl] at *; omega)), ?_⟩
        have a5 : -2147483648 ≤ (I 5 (Int.toNat v0)) ∧ (I 5 (Int.toNat v0)) < 2147483648 := hA.1 _ _
        exact ⟨rfl, fun hv hA' => hQ _ (hv _ rfl) (show 32 ≤ (I 5 (Int.toNat v0)) ∧ (I 5 (Int.toNat v0)) ≤ 122 → tt v0 = (I 5 (Int.toNat v0)) from by first | with_reducible assumption | omega | (simp only [wr, wl] at *; omega)) (show ¬ (32 ≤ (I 5 (Int.toNat v0)) ∧ (I 5 (Int.toNat v0)) ≤ 122) → tt v0 = 0 from by first | with_reducible assumption | omega | (simp only [wr, wl] at *; omega))⟩
theorem c_isLetter9 (hF : FS F) (hR : Rg I) {v0 : Int} (hx : F 218 0 = some 5) {tt : Int → Int} {nn : Int} (hl : I 218 1 = nn) (ht : TXT tt nn (I 5)) (hQ : ∀ r : Int, iR r → (0 ≤ r ∧ r ≤ 1) → (r = 1 → 97 ≤ tt v0 ∧ tt v0 ≤ 122) → (r = 0 → ¬ (97 ≤ tt v0 ∧ tt v0 ≤ 122)) → Q (some (vi r)) F I) : CallN G (d + 1) kX9_isLetter [vr 218, vi v0] NP F I Q := by
  refine CallN_in (fun hok hA => CallN_out ?_)
  have iv0 : -2147483648 ≤ v0 ∧ v0 < 2147483648 := hok (vi v0) (by simp)
  have hn2 := ht.1
  refine Call_wp (lv := [some (vr 218), some (vi v0)]) (by decide) ckX9_isLetter [] rfl rfl ?_
  refine ⟨⟨_, rfl, (by decide)⟩, ?_⟩
  have z1 := TXT_z ht v0
  refine c_byteAt9 (v0 := v0) hF hR hx (hl) ht (fun vr2 hr3 q4 q5 => ?_)
  have hr3 : -2147483648 ≤ vr2 ∧ vr2 < 2147483648 := hr3
  have q4 : 32 ≤ vr2 ∧ vr2 ≤ 122 → tt (v0 : Int) = vr2 := q4
  have q5 : ¬ (32 ≤ vr2 ∧ vr2 ≤ 122) → tt (v0 : Int) = 0 := q5
  refine s_X11_within (fun (w6 : ((97 : Int) ≤ vr2 ∧ (vr2 : Int) ≤ 122)) => ?_) (fun (w6 : ¬ ((97 : Int) ≤ vr2 ∧ (vr2 : Int) ≤ 122)) => ?_)
  ·
    exact ⟨rfl, (by decide), fun hv hA' => hQ _ (hv _ rfl) (show 0 ≤ 1 ∧ 1 ≤ 1 from by decide) (show 1 = 1 → 97 ≤ tt v0 ∧ tt v0 ≤ 122 from by first | with_reducible assumption | omega | (simp only [wr, wl] at *; omega)) (show 1 = 0 → ¬ (97 ≤ tt v0 ∧ tt v0 ≤ 122) from fun z => absurd z (by decide))⟩
  ·
    exact ⟨rfl, (by decide), fun hv hA' => hQ _ (hv _ rfl) (show 0 ≤ 0 ∧ 0 ≤ 1 from by decide) (show 0 = 1 → 97 ≤ tt v0 ∧ tt v0 ≤ 122 from fun z => absurd z (by decide)) (show 0 = 0 → ¬ (97 ≤ tt v0 ∧ tt v0 ≤ 122) from by first | with_reducible assumption | omega | (simp only [wr, wl] at *; omega))⟩
theorem c_isDigit9 (hF : FS F) (hR : Rg I) {v0 : Int} (hx : F 218 0 = some 5) {tt : Int → Int} {nn : Int} (hl : I 218 1 = nn) (ht : TXT tt nn (I 5)) (hQ : ∀ r : Int, iR r → (0 ≤ r ∧ r ≤ 1) → (r = 1 → 48 ≤ tt v0 ∧ tt v0 ≤ 57) → (r = 0 → ¬ (48 ≤ tt v0 ∧ tt v0 ≤ 57)) → Q (some (vi r)) F I) : CallN G (d + 1) kX9_isDigit [vr 218, vi v0] NP F I Q := by
  refine CallN_in (fun hok hA => CallN_out ?_)
  have iv0 : -2147483648 ≤ v0 ∧ v0 < 2147483648 := hok (vi v0) (by simp)
  have hn2 := ht.1
  refine Call_wp (lv := [some (vr 218), some (vi v0)]) (by decide) ckX9_isDigit [] rfl rfl ?_
  refine ⟨⟨_, rfl, (by decide)⟩, ?_⟩
  have z1 := TXT_z ht v0
  refine c_byteAt9 (v0 := v0) hF hR hx (hl) ht (fun vr2 hr3 q4 q5 => ?_)
  have hr3 : -2147483648 ≤ vr2 ∧ vr2 < 2147483648 := hr3
  have q4 : 32 ≤ vr2 ∧ vr2 ≤ 122 → tt (v0 : Int) = vr2 := q4
  have q5 : ¬ (32 ≤ vr2 ∧ vr2 ≤ 122) → tt (v0 : Int) = 0 := q5
  refine s_X11_within (fun (w6 : ((48 : Int) ≤ vr2 ∧ (vr2 : Int) ≤ 57)) => ?_) (fun (w6 : ¬ ((48 : Int) ≤ vr2 ∧ (vr2 : Int) ≤ 57)) => ?_)
  ·
    exact ⟨rfl, (by decide), fun hv hA' => hQ _ (hv _ rfl) (show 0 ≤ 1 ∧ 1 ≤ 1 from by decide) (show 1 = 1 → 48 ≤ tt v0 ∧ tt v0 ≤ 57 from by first | with_reducible assumption | omega | (simp only [wr, wl] at *; omega)) (show 1 = 0 → ¬ (48 ≤ tt v0 ∧ tt v0 ≤ 57) from fun z => absurd z (by decide))⟩
  ·
    exact ⟨rfl, (by decide), fun hv hA' => hQ _ (hv _ rfl) (show 0 ≤ 0 ∧ 0 ≤ 1 from by decide) (show 0 = 1 → 48 ≤ tt v0 ∧ tt v0 ≤ 57 from fun z => absurd z (by decide)) (show 0 = 0 → ¬ (48 ≤ tt v0 ∧ tt v0 ≤ 57) from by first | with_reducible assumption | omega | (simp only [wr, wl] at *; omega))⟩
theorem c_mark9_0 (hF : FS F) (hR : Rg I) (hx : F 218 0 = some 5) {tt : Int → Int} {nn : Int} (hl : I 218 1 = nn) (ht : TXT tt nn (I 5)) (hb : 0 ≤ I 218 2 ∧ I 218 2 ≤ I 218 3 ∧ I 218 3 ≤ nn) (hQ : ∀ r : Int, iR r → (0 ≤ r ∧ r ≤ 1) → (r = 1 → ((I 218 3) - (I 218 2) = 4 ∧ tt (I 218 2) = 108 ∧ tt ((I 218 2) + 1) = 97 ∧ tt ((I 218 2) + 2) = 115 ∧ tt ((I 218 2) + 3) = 116)) → (r = 0 → ¬ ((I 218 3) - (I 218 2) = 4 ∧ tt (I 218 2) = 108 ∧ tt ((I 218 2) + 1) = 97 ∧ tt ((I 218 2) + 2) = 115 ∧ tt ((I 218 2) + 3) = 116)) → Q (some (vi r)) F I) : CallN G (d + 4) kX9_isMark [vr 218, vr 4106] NP F I Q := by
  refine CallN_in (fun hok hA => CallN_out ?_)
  have hn2 := ht.1
  refine Call_wp (lv := [some (vr 218), some (vr 4106), none]) (by decide) ckX9_isMark [] rfl rfl ?_
  refine ⟨_, rfl, (by decide), ?_⟩
  have r1 : 0 ≤ (I 218 3) ∧ (I 218 3) ≤ 64 := (by omega)
  refine ⟨_, rfl, (by decide), ?_⟩
  have r2 : 0 ≤ (I 218 2) ∧ (I 218 2) ≤ 64 := (by omega)
  refine ⟨⟨0, (by decide), rfl⟩, ?_⟩
  refine Call_wp (lv := [some (vr 4106)]) (by decide) ckJ0_length_8abf5 [] rfl rfl ?_
  refine ⟨0, (by decide), rfl, ?_⟩
  refine Or.inr (Or.inr ⟨0, (by decide), rfl, ?_⟩)
  refine ⟨⟨0, (by decide), rfl⟩, ?_⟩
  refine Call_wp (lv := [some (vr 4106)]) (by decide) ckJ0_coder_7d493 [] rfl rfl ?_
  refine ⟨fun c => absurd c (show (¬ ((1 : Int) = 0)) from by decide), fun _ => ?_⟩
  refine ⟨0, (by decide), rfl, ?_⟩
  refine ⟨rfl, (by decide), ?_⟩
  refine ⟨rfl, ?_⟩
  have n5 : (wr ((I 218 3) - (I 218 2))) = (I 218 3) - (I 218 2) := wr_id (show -2147483648 ≤ ((I 218 3) - (I 218 2) : Int) ∧ ((I 218 3) - (I 218 2) : Int) < 2147483648 from by omega)
  refine ⟨fun (c6 : (((wr ((I 218 3) - (I 218 2))) : Int) = 4)) => ?_, fun (c6 : (¬ (((wr ((I 218 3) - (I 218 2))) : Int) = 4))) => ?_⟩
  ·
    refine ⟨⟨0, (by decide), rfl⟩, ?_⟩
    refine Call_wp (lv := [some (vr 4106)]) (by decide) ckJ0_length_8abf5 [] rfl rfl ?_
    refine ⟨0, (by decide), rfl, ?_⟩
    refine Or.inr (Or.inr ⟨0, (by decide), rfl, ?_⟩)
    refine ⟨⟨0, (by decide), rfl⟩, ?_⟩
    refine Call_wp (lv := [some (vr 4106)]) (by decide) ckJ0_coder_7d493 [] rfl rfl ?_
    refine ⟨fun c => absurd c (show (¬ ((1 : Int) = 0)) from by decide), fun _ => ?_⟩
    refine ⟨0, (by decide), rfl, ?_⟩
    refine ⟨rfl, (by decide), ?_⟩
    refine ⟨rfl, ?_⟩
    refine ⟨fun c => absurd c (show (¬ ((4 : Int) ≤ 0)) from by decide), fun _ => ?_⟩
    refine ⟨_, rfl, (by decide), ?_⟩
    refine ⟨⟨_, rfl, (by decide)⟩, ?_⟩
    have n7 : (wr ((I 218 2) + 0)) = (I 218 2) + 0 := wr_id (show -2147483648 ≤ ((I 218 2) + 0 : Int) ∧ ((I 218 2) + 0 : Int) < 2147483648 from by omega)
    have z8 := TXT_z ht (wr ((I 218 2) + 0))
    have z9 : tt (wr ((I 218 2) + 0)) = tt ((I 218 2)) := congrArg tt (by omega)
    refine c_byteAt9 (v0 := (wr ((I 218 2) + 0))) hF hR hx (hl) ht (fun vr10 hr11 q12 q13 => ?_)
    have hr11 : -2147483648 ≤ vr10 ∧ vr10 < 2147483648 := hr11
    have q12 : 32 ≤ vr10 ∧ vr10 ≤ 122 → tt ((wr ((I 218 2) + 0)) : Int) = vr10 := q12
    have q13 : ¬ (32 ≤ vr10 ∧ vr10 ≤ 122) → tt ((wr ((I 218 2) + 0)) : Int) = 0 := q13
    refine ⟨⟨0, (by decide), rfl⟩, ?_⟩
    refine Call_wp (lv := [some (vr 4106), some (vi 0)]) (by decide) ckJ0_charAt_5068e [] rfl rfl ?_
    refine ⟨⟨0, (by decide), rfl⟩, ?_⟩
    refine Call_wp (lv := [some (vr 4106)]) (by decide) ckJ0_isLatin1_aae02 [] rfl rfl ?_
    refine ⟨fun c => absurd c (show (¬ ((1 : Int) = 0)) from by decide), fun _ => ?_⟩
    refine ⟨0, (by decide), rfl, ?_⟩
    refine ⟨fun c => absurd (show ((0 : Int) = 0) from by decide) c, fun _ => ?_⟩
    refine ⟨rfl, (by decide), ?_⟩
    refine ⟨fun c => absurd c (show (¬ ((1 : Int) = 0)) from by decide), fun _ => ?_⟩
    refine ⟨0, (by decide), rfl, ?_⟩
    refine Call_wp (lv := [some (vr 4136), some (vi 0)]) (by decide) ckJ1_charAt_3b067 [] rfl rfl ?_
    refine Or.inr (Or.inr ⟨0, (by decide), rfl, ?_⟩)
    refine j_check (i := 0) (n := 4) (by omega) ?_
    refine ⟨0, (by decide), rfl, (by decide), (by decide), ?_⟩
    refine ⟨rfl, (by decide), ?_⟩
    refine ⟨rfl, (by decide), ?_⟩
    refine ⟨fun (c14 : ((vr10 : Int) = 108)) => ?_, fun (c14 : (¬ ((vr10 : Int) = 108))) => ?_⟩
    ·
      replace q12 : tt (wr ((I 218 2) + 0)) = 108 := by omega
      clear q13 z8
      refine ⟨⟨0, (by decide), rfl⟩, ?_⟩
      refine Call_wp (lv := [some (vr 4106)]) (by decide) ckJ0_length_8abf5 [] rfl rfl ?_
      refine ⟨0, (by decide), rfl, ?_⟩
      refine Or.inr (Or.inr ⟨0, (by decide), rfl, ?_⟩)
      refine ⟨⟨0, (by decide), rfl⟩, ?_⟩
      refine Call_wp (lv := [some (vr 4106)]) (by decide) ckJ0_coder_7d493 [] rfl rfl ?_
      refine ⟨fun c => absurd c (show (¬ ((1 : Int) = 0)) from by decide), fun _ => ?_⟩
      refine ⟨0, (by decide), rfl, ?_⟩
      refine ⟨rfl, (by decide), ?_⟩
      refine ⟨rfl, ?_⟩
      refine ⟨fun c => absurd c (show (¬ ((4 : Int) ≤ 1)) from by decide), fun _ => ?_⟩
      refine ⟨_, rfl, (by decide), ?_⟩
      refine ⟨⟨_, rfl, (by decide)⟩, ?_⟩
      have n15 : (wr ((I 218 2) + 1)) = (I 218 2) + 1 := wr_id (show -2147483648 ≤ ((I 218 2) + 1 : Int) ∧ ((I 218 2) + 1 : Int) < 2147483648 from by omega)
      have z16 := TXT_z ht (wr ((I 218 2) + 1))
      have z17 : tt (wr ((I 218 2) + 1)) = tt ((I 218 2) + 1) := congrArg tt (by omega)
      refine c_byteAt9 (v0 := (wr ((I 218 2) + 1))) hF hR hx (hl) ht (fun vr18 hr19 q20 q21 => ?_)
      have hr19 : -2147483648 ≤ vr18 ∧ vr18 < 2147483648 := hr19
      have q20 : 32 ≤ vr18 ∧ vr18 ≤ 122 → tt ((wr ((I 218 2) + 1)) : Int) = vr18 := q20
      have q21 : ¬ (32 ≤ vr18 ∧ vr18 ≤ 122) → tt ((wr ((I 218 2) + 1)) : Int) = 0 := q21
      refine ⟨⟨0, (by decide), rfl⟩, ?_⟩
      refine Call_wp (lv := [some (vr 4106), some (vi 1)]) (by decide) ckJ0_charAt_5068e [] rfl rfl ?_
      refine ⟨⟨0, (by decide), rfl⟩, ?_⟩
      refine Call_wp (lv := [some (vr 4106)]) (by decide) ckJ0_isLatin1_aae02 [] rfl rfl ?_
      refine ⟨fun c => absurd c (show (¬ ((1 : Int) = 0)) from by decide), fun _ => ?_⟩
      refine ⟨0, (by decide), rfl, ?_⟩
      refine ⟨fun c => absurd (show ((0 : Int) = 0) from by decide) c, fun _ => ?_⟩
      refine ⟨rfl, (by decide), ?_⟩
      refine ⟨fun c => absurd c (show (¬ ((1 : Int) = 0)) from by decide), fun _ => ?_⟩
      refine ⟨0, (by decide), rfl, ?_⟩
      refine Call_wp (lv := [some (vr 4136), some (vi 1)]) (by decide) ckJ1_charAt_3b067 [] rfl rfl ?_
      refine Or.inr (Or.inr ⟨0, (by decide), rfl, ?_⟩)
      refine j_check (i := 1) (n := 4) (by omega) ?_
      refine ⟨0, (by decide), rfl, (by decide), (by decide), ?_⟩
      refine ⟨rfl, (by decide), ?_⟩
      refine ⟨rfl, (by decide), ?_⟩
      refine ⟨fun (c22 : ((vr18 : Int) = 97)) => ?_, fun (c22 : (¬ ((vr18 : Int) = 97))) => ?_⟩
      ·
        replace q20 : tt (wr ((I 218 2) + 1)) = 97 := by omega
        clear q21 z16
        refine ⟨⟨0, (by decide), rfl⟩, ?_⟩
        refine Call_wp (lv := [some (vr 4106)]) (by decide) ckJ0_length_8abf5 [] rfl rfl ?_
        refine ⟨0, (by decide), rfl, ?_⟩
        refine Or.inr (Or.inr ⟨0, (by decide), rfl, ?_⟩)
        refine ⟨⟨0, (by decide), rfl⟩, ?_⟩
        refine Call_wp (lv := [some (vr 4106)]) (by decide) ckJ0_coder_7d493 [] rfl rfl ?_
        refine ⟨fun c => absurd c (show (¬ ((1 : Int) = 0)) from by decide), fun _ => ?_⟩
        refine ⟨0, (by decide), rfl, ?_⟩
        refine ⟨rfl, (by decide), ?_⟩
        refine ⟨rfl, ?_⟩
        refine ⟨fun c => absurd c (show (¬ ((4 : Int) ≤ 2)) from by decide), fun _ => ?_⟩
        refine ⟨_, rfl, (by decide), ?_⟩
        refine ⟨⟨_, rfl, (by decide)⟩, ?_⟩
        have n23 : (wr ((I 218 2) + 2)) = (I 218 2) + 2 := wr_id (show -2147483648 ≤ ((I 218 2) + 2 : Int) ∧ ((I 218 2) + 2 : Int) < 2147483648 from by omega)
        have z24 := TXT_z ht (wr ((I 218 2) + 2))
        have z25 : tt (wr ((I 218 2) + 2)) = tt ((I 218 2) + 2) := congrArg tt (by omega)
        refine c_byteAt9 (v0 := (wr ((I 218 2) + 2))) hF hR hx (hl) ht (fun vr26 hr27 q28 q29 => ?_)
        have hr27 : -2147483648 ≤ vr26 ∧ vr26 < 2147483648 := hr27
        have q28 : 32 ≤ vr26 ∧ vr26 ≤ 122 → tt ((wr ((I 218 2) + 2)) : Int) = vr26 := q28
        have q29 : ¬ (32 ≤ vr26 ∧ vr26 ≤ 122) → tt ((wr ((I 218 2) + 2)) : Int) = 0 := q29
        refine ⟨⟨0, (by decide), rfl⟩, ?_⟩
        refine Call_wp (lv := [some (vr 4106), some (vi 2)]) (by decide) ckJ0_charAt_5068e [] rfl rfl ?_
        refine ⟨⟨0, (by decide), rfl⟩, ?_⟩
        refine Call_wp (lv := [some (vr 4106)]) (by decide) ckJ0_isLatin1_aae02 [] rfl rfl ?_
        refine ⟨fun c => absurd c (show (¬ ((1 : Int) = 0)) from by decide), fun _ => ?_⟩
        refine ⟨0, (by decide), rfl, ?_⟩
        refine ⟨fun c => absurd (show ((0 : Int) = 0) from by decide) c, fun _ => ?_⟩
        refine ⟨rfl, (by decide), ?_⟩
        refine ⟨fun c => absurd c (show (¬ ((1 : Int) = 0)) from by decide), fun _ => ?_⟩
        refine ⟨0, (by decide), rfl, ?_⟩
        refine Call_wp (lv := [some (vr 4136), some (vi 2)]) (by decide) ckJ1_charAt_3b067 [] rfl rfl ?_
        refine Or.inr (Or.inr ⟨0, (by decide), rfl, ?_⟩)
        refine j_check (i := 2) (n := 4) (by omega) ?_
        refine ⟨0, (by decide), rfl, (by decide), (by decide), ?_⟩
        refine ⟨rfl, (by decide), ?_⟩
        refine ⟨rfl, (by decide), ?_⟩
        refine ⟨fun (c30 : ((vr26 : Int) = 115)) => ?_, fun (c30 : (¬ ((vr26 : Int) = 115))) => ?_⟩
        ·
          replace q28 : tt (wr ((I 218 2) + 2)) = 115 := by omega
          clear q29 z24
          refine ⟨⟨0, (by decide), rfl⟩, ?_⟩
          refine Call_wp (lv := [some (vr 4106)]) (by decide) ckJ0_length_8abf5 [] rfl rfl ?_
          refine ⟨0, (by decide), rfl, ?_⟩
          refine Or.inr (Or.inr ⟨0, (by decide), rfl, ?_⟩)
          refine ⟨⟨0, (by decide), rfl⟩, ?_⟩
          refine Call_wp (lv := [some (vr 4106)]) (by decide) ckJ0_coder_7d493 [] rfl rfl ?_
          refine ⟨fun c => absurd c (show (¬ ((1 : Int) = 0)) from by decide), fun _ => ?_⟩
          refine ⟨0, (by decide), rfl, ?_⟩
          refine ⟨rfl, (by decide), ?_⟩
          refine ⟨rfl, ?_⟩
          refine ⟨fun c => absurd c (show (¬ ((4 : Int) ≤ 3)) from by decide), fun _ => ?_⟩
          refine ⟨_, rfl, (by decide), ?_⟩
          refine ⟨⟨_, rfl, (by decide)⟩, ?_⟩
          have n31 : (wr ((I 218 2) + 3)) = (I 218 2) + 3 := wr_id (show -2147483648 ≤ ((I 218 2) + 3 : Int) ∧ ((I 218 2) + 3 : Int) < 2147483648 from by omega)
          have z32 := TXT_z ht (wr ((I 218 2) + 3))
          have z33 : tt (wr ((I 218 2) + 3)) = tt ((I 218 2) + 3) := congrArg tt (by omega)
          refine c_byteAt9 (v0 := (wr ((I 218 2) + 3))) hF hR hx (hl) ht (fun vr34 hr35 q36 q37 => ?_)
          have hr35 : -2147483648 ≤ vr34 ∧ vr34 < 2147483648 := hr35
          have q36 : 32 ≤ vr34 ∧ vr34 ≤ 122 → tt ((wr ((I 218 2) + 3)) : Int) = vr34 := q36
          have q37 : ¬ (32 ≤ vr34 ∧ vr34 ≤ 122) → tt ((wr ((I 218 2) + 3)) : Int) = 0 := q37
          refine ⟨⟨0, (by decide), rfl⟩, ?_⟩
          refine Call_wp (lv := [some (vr 4106), some (vi 3)]) (by decide) ckJ0_charAt_5068e [] rfl rfl ?_
          refine ⟨⟨0, (by decide), rfl⟩, ?_⟩
          refine Call_wp (lv := [some (vr 4106)]) (by decide) ckJ0_isLatin1_aae02 [] rfl rfl ?_
          refine ⟨fun c => absurd c (show (¬ ((1 : Int) = 0)) from by decide), fun _ => ?_⟩
          refine ⟨0, (by decide), rfl, ?_⟩
          refine ⟨fun c => absurd (show ((0 : Int) = 0) from by decide) c, fun _ => ?_⟩
          refine ⟨rfl, (by decide), ?_⟩
          refine ⟨fun c => absurd c (show (¬ ((1 : Int) = 0)) from by decide), fun _ => ?_⟩
          refine ⟨0, (by decide), rfl, ?_⟩
          refine Call_wp (lv := [some (vr 4136), some (vi 3)]) (by decide) ckJ1_charAt_3b067 [] rfl rfl ?_
          refine Or.inr (Or.inr ⟨0, (by decide), rfl, ?_⟩)
          refine j_check (i := 3) (n := 4) (by omega) ?_
          refine ⟨0, (by decide), rfl, (by decide), (by decide), ?_⟩
          refine ⟨rfl, (by decide), ?_⟩
          refine ⟨rfl, (by decide), ?_⟩
          refine ⟨fun (c38 : ((vr34 : Int) = 116)) => ?_, fun (c38 : (¬ ((vr34 : Int) = 116))) => ?_⟩
          ·
            replace q36 : tt (wr ((I 218 2) + 3)) = 116 := by omega
            clear q37 z32
            refine ⟨⟨0, (by decide), rfl⟩, ?_⟩
            refine Call_wp (lv := [some (vr 4106)]) (by decide) ckJ0_length_8abf5 [] rfl rfl ?_
            refine ⟨0, (by decide), rfl, ?_⟩
            refine Or.inr (Or.inr ⟨0, (by decide), rfl, ?_⟩)
            refine ⟨⟨0, (by decide), rfl⟩, ?_⟩
            refine Call_wp (lv := [some (vr 4106)]) (by decide) ckJ0_coder_7d493 [] rfl rfl ?_
            refine ⟨fun c => absurd c (show (¬ ((1 : Int) = 0)) from by decide), fun _ => ?_⟩
            refine ⟨0, (by decide), rfl, ?_⟩
            refine ⟨rfl, (by decide), ?_⟩
            refine ⟨rfl, ?_⟩
            refine ⟨fun _ => ?_, fun c => absurd (show ((4 : Int) ≤ 4) from by decide) c⟩
            exact ⟨rfl, (by decide), fun hv hA' => hQ _ (hv _ rfl) (show 0 ≤ 1 ∧ 1 ≤ 1 from by decide) (show 1 = 1 → ((I 218 3) - (I 218 2) = 4 ∧ tt (I 218 2) = 108 ∧ tt ((I 218 2) + 1) = 97 ∧ tt ((I 218 2) + 2) = 115 ∧ tt ((I 218 2) + 3) = 116) from by first | omega | (simp only [wr, wl] at *; omega)) (show 1 = 0 → ¬ ((I 218 3) - (I 218 2) = 4 ∧ tt (I 218 2) = 108 ∧ tt ((I 218 2) + 1) = 97 ∧ tt ((I 218 2) + 2) = 115 ∧ tt ((I 218 2) + 3) = 116) from fun z => absurd z (by decide))⟩
          ·
            replace q36 : ¬ tt (wr ((I 218 2) + 3)) = 116 := by omega
            clear q37 z32
            exact ⟨rfl, (by decide), fun hv hA' => hQ _ (hv _ rfl) (show 0 ≤ 0 ∧ 0 ≤ 1 from by decide) (show 0 = 1 → ((I 218 3) - (I 218 2) = 4 ∧ tt (I 218 2) = 108 ∧ tt ((I 218 2) + 1) = 97 ∧ tt ((I 218 2) + 2) = 115 ∧ tt ((I 218 2) + 3) = 116) from fun z => absurd z (by decide)) (show 0 = 0 → ¬ ((I 218 3) - (I 218 2) = 4 ∧ tt (I 218 2) = 108 ∧ tt ((I 218 2) + 1) = 97 ∧ tt ((I 218 2) + 2) = 115 ∧ tt ((I 218 2) + 3) = 116) from by first | omega | (simp only [wr, wl] at *; omega))⟩
        ·
          replace q28 : ¬ tt (wr ((I 218 2) + 2)) = 115 := by omega
          clear q29 z24
          exact ⟨rfl, (by decide), fun hv hA' => hQ _ (hv _ rfl) (show 0 ≤ 0 ∧ 0 ≤ 1 from by decide) (show 0 = 1 → ((I 218 3) - (I 218 2) = 4 ∧ tt (I 218 2) = 108 ∧ tt ((I 218 2) + 1) = 97 ∧ tt ((I 218 2) + 2) = 115 ∧ tt ((I 218 2) + 3) = 116) from fun z => absurd z (by decide)) (show 0 = 0 → ¬ ((I 218 3) - (I 218 2) = 4 ∧ tt (I 218 2) = 108 ∧ tt ((I 218 2) + 1) = 97 ∧ tt ((I 218 2) + 2) = 115 ∧ tt ((I 218 2) + 3) = 116) from by first | omega | (simp only [wr, wl] at *; omega))⟩
      ·
        replace q20 : ¬ tt (wr ((I 218 2) + 1)) = 97 := by omega
        clear q21 z16
        exact ⟨rfl, (by decide), fun hv hA' => hQ _ (hv _ rfl) (show 0 ≤ 0 ∧ 0 ≤ 1 from by decide) (show 0 = 1 → ((I 218 3) - (I 218 2) = 4 ∧ tt (I 218 2) = 108 ∧ tt ((I 218 2) + 1) = 97 ∧ tt ((I 218 2) + 2) = 115 ∧ tt ((I 218 2) + 3) = 116) from fun z => absurd z (by decide)) (show 0 = 0 → ¬ ((I 218 3) - (I 218 2) = 4 ∧ tt (I 218 2) = 108 ∧ tt ((I 218 2) + 1) = 97 ∧ tt ((I 218 2) + 2) = 115 ∧ tt ((I 218 2) + 3) = 116) from by first | omega | (simp only [wr, wl] at *; omega))⟩
    ·
      replace q12 : ¬ tt (wr ((I 218 2) + 0)) = 108 := by omega
      clear q13 z8
      exact ⟨rfl, (by decide), fun hv hA' => hQ _ (hv _ rfl) (show 0 ≤ 0 ∧ 0 ≤ 1 from by decide) (show 0 = 1 → ((I 218 3) - (I 218 2) = 4 ∧ tt (I 218 2) = 108 ∧ tt ((I 218 2) + 1) = 97 ∧ tt ((I 218 2) + 2) = 115 ∧ tt ((I 218 2) + 3) = 116) from fun z => absurd z (by decide)) (show 0 = 0 → ¬ ((I 218 3) - (I 218 2) = 4 ∧ tt (I 218 2) = 108 ∧ tt ((I 218 2) + 1) = 97 ∧ tt ((I 218 2) + 2) = 115 ∧ tt ((I 218 2) + 3) = 116) from by first | omega | (simp only [wr, wl] at *; omega))⟩
  ·
    exact ⟨rfl, (by decide), fun hv hA' => hQ _ (hv _ rfl) (show 0 ≤ 0 ∧ 0 ≤ 1 from by decide) (show 0 = 1 → ((I 218 3) - (I 218 2) = 4 ∧ tt (I 218 2) = 108 ∧ tt ((I 218 2) + 1) = 97 ∧ tt ((I 218 2) + 2) = 115 ∧ tt ((I 218 2) + 3) = 116) from fun z => absurd z (by decide)) (show 0 = 0 → ¬ ((I 218 3) - (I 218 2) = 4 ∧ tt (I 218 2) = 108 ∧ tt ((I 218 2) + 1) = 97 ∧ tt ((I 218 2) + 2) = 115 ∧ tt ((I 218 2) + 3) = 116) from by first | omega | (simp only [wr, wl] at *; omega))⟩
theorem c_mk9_0 (hF : FS F) (hR : Rg I) (hx : F 218 0 = some 5) {tt : Int → Int} {nn : Int} (hl : I 218 1 = nn) (ht : TXT tt nn (I 5)) (hb : 0 ≤ I 218 2 ∧ I 218 2 ≤ I 218 3 ∧ I 218 3 ≤ nn) (h1 : mkW0 tt (I 218 2) (I 218 3) → I 218 3 - I 218 2 = 4 → Q (some (vi 1)) F I) (h0 : ¬ mkW0 tt (I 218 2) (I 218 3) → Q (some (vi 0)) F I) : CallN G (d + 4) kX9_isMark [vr 218, vr 4106] NP F I Q := by
  refine c_mark9_0 hF hR hx hl ht hb (fun r _ hr q1 q0 => ?_)
  by_cases e : r = 1
  · rw [e]; exact h1 (q1 e) (q1 e).1
  · have e0 : r = 0 := by omega
    rw [e0]; exact h0 (q0 e0)
theorem c_mark9_1 (hF : FS F) (hR : Rg I) (hx : F 218 0 = some 5) {tt : Int → Int} {nn : Int} (hl : I 218 1 = nn) (ht : TXT tt nn (I 5)) (hb : 0 ≤ I 218 2 ∧ I 218 2 ≤ I 218 3 ∧ I 218 3 ≤ nn) (hQ : ∀ r : Int, iR r → (0 ≤ r ∧ r ≤ 1) → (r = 1 → ((I 218 3) - (I 218 2) = 2 ∧ tt (I 218 2) = 103 ∧ tt ((I 218 2) + 1) = 111)) → (r = 0 → ¬ ((I 218 3) - (I 218 2) = 2 ∧ tt (I 218 2) = 103 ∧ tt ((I 218 2) + 1) = 111)) → Q (some (vi r)) F I) : CallN G (d + 4) kX9_isMark [vr 218, vr 4107] NP F I Q := by
  refine CallN_in (fun hok hA => CallN_out ?_)
  have hn2 := ht.1
  refine Call_wp (lv := [some (vr 218), some (vr 4107), none]) (by decide) ckX9_isMark [] rfl rfl ?_
  refine ⟨_, rfl, (by decide), ?_⟩
  have r1 : 0 ≤ (I 218 3) ∧ (I 218 3) ≤ 64 := (by omega)
  refine ⟨_, rfl, (by decide), ?_⟩
  have r2 : 0 ≤ (I 218 2) ∧ (I 218 2) ≤ 64 := (by omega)
  refine ⟨⟨1, (by decide), rfl⟩, ?_⟩
  refine Call_wp (lv := [some (vr 4107)]) (by decide) ckJ0_length_8abf5 [] rfl rfl ?_
  refine ⟨1, (by decide), rfl, ?_⟩
  refine Or.inr (Or.inr ⟨1, (by decide), rfl, ?_⟩)
  refine ⟨⟨1, (by decide), rfl⟩, ?_⟩
  refine Call_wp (lv := [some (vr 4107)]) (by decide) ckJ0_coder_7d493 [] rfl rfl ?_
  refine ⟨fun c => absurd c (show (¬ ((1 : Int) = 0)) from by decide), fun _ => ?_⟩
  refine ⟨1, (by decide), rfl, ?_⟩
  refine ⟨rfl, (by decide), ?_⟩
  refine ⟨rfl, ?_⟩
  have n5 : (wr ((I 218 3) - (I 218 2))) = (I 218 3) - (I 218 2) := wr_id (show -2147483648 ≤ ((I 218 3) - (I 218 2) : Int) ∧ ((I 218 3) - (I 218 2) : Int) < 2147483648 from by omega)
  refine ⟨fun (c6 : (((wr ((I 218 3) - (I 218 2))) : Int) = 2)) => ?_, fun (c6 : (¬ (((wr ((I 218 3) - (I 218 2))) : Int) = 2))) => ?_⟩
  ·
    refine ⟨⟨1, (by decide), rfl⟩, ?_⟩
    refine Call_wp (lv := [some (vr 4107)]) (by decide) ckJ0_length_8abf5 [] rfl rfl ?_
    refine ⟨1, (by decide), rfl, ?_⟩
    refine Or.inr (Or.inr ⟨1, (by decide), rfl, ?_⟩)
    refine ⟨⟨1, (by decide), rfl⟩, ?_⟩
    refine Call_wp (lv := [some (vr 4107)]) (by decide) ckJ0_coder_7d493 [] rfl rfl ?_
    refine ⟨fun c => absurd c (show (¬ ((1 : Int) = 0)) from by decide), fun _ => ?_⟩
    refine ⟨1, (by decide), rfl, ?_⟩
    refine ⟨rfl, (by decide), ?_⟩
    refine ⟨rfl, ?_⟩
    refine ⟨fun c => absurd c (show (¬ ((2 : Int) ≤ 0)) from by decide), fun _ => ?_⟩
    refine ⟨_, rfl, (by decide), ?_⟩
    refine ⟨⟨_, rfl, (by decide)⟩, ?_⟩
    have n7 : (wr ((I 218 2) + 0)) = (I 218 2) + 0 := wr_id (show -2147483648 ≤ ((I 218 2) + 0 : Int) ∧ ((I 218 2) + 0 : Int) < 2147483648 from by omega)
    have z8 := TXT_z ht (wr ((I 218 2) + 0))
    have z9 : tt (wr ((I 218 2) + 0)) = tt ((I 218 2)) := congrArg tt (by omega)
    refine c_byteAt9 (v0 := (wr ((I 218 2) + 0))) hF hR hx (hl) ht (fun vr10 hr11 q12 q13 => ?_)
    have hr11 : -2147483648 ≤ vr10 ∧ vr10 < 2147483648 := hr11
    have q12 : 32 ≤ vr10 ∧ vr10 ≤ 122 → tt ((wr ((I 218 2) + 0)) : Int) = vr10 := q12
    have q13 : ¬ (32 ≤ vr10 ∧ vr10 ≤ 122) → tt ((wr ((I 218 2) + 0)) : Int) = 0 := q13
    refine ⟨⟨1, (by decide), rfl⟩, ?_⟩
    refine Call_wp (lv := [some (vr 4107), some (vi 0)]) (by decide) ckJ0_charAt_5068e [] rfl rfl ?_
    refine ⟨⟨1, (by decide), rfl⟩, ?_⟩
    refine Call_wp (lv := [some (vr 4107)]) (by decide) ckJ0_isLatin1_aae02 [] rfl rfl ?_
    refine ⟨fun c => absurd c (show (¬ ((1 : Int) = 0)) from by decide), fun _ => ?_⟩
    refine ⟨1, (by decide), rfl, ?_⟩
    refine ⟨fun c => absurd (show ((0 : Int) = 0) from by decide) c, fun _ => ?_⟩
    refine ⟨rfl, (by decide), ?_⟩
    refine ⟨fun c => absurd c (show (¬ ((1 : Int) = 0)) from by decide), fun _ => ?_⟩
    refine ⟨1, (by decide), rfl, ?_⟩
    refine Call_wp (lv := [some (vr 4137), some (vi 0)]) (by decide) ckJ1_charAt_3b067 [] rfl rfl ?_
    refine Or.inr (Or.inr ⟨1, (by decide), rfl, ?_⟩)
    refine j_check (i := 0) (n := 2) (by omega) ?_
    refine ⟨1, (by decide), rfl, (by decide), (by decide), ?_⟩
    refine ⟨rfl, (by decide), ?_⟩
    refine ⟨rfl, (by decide), ?_⟩
    refine ⟨fun (c14 : ((vr10 : Int) = 103)) => ?_, fun (c14 : (¬ ((vr10 : Int) = 103))) => ?_⟩
    ·
      replace q12 : tt (wr ((I 218 2) + 0)) = 103 := by omega
      clear q13 z8
      refine ⟨⟨1, (by decide), rfl⟩, ?_⟩
      refine Call_wp (lv := [some (vr 4107)]) (by decide) ckJ0_length_8abf5 [] rfl rfl ?_
      refine ⟨1, (by decide), rfl, ?_⟩
      refine Or.inr (Or.inr ⟨1, (by decide), rfl, ?_⟩)
      refine ⟨⟨1, (by decide), rfl⟩, ?_⟩
      refine Call_wp (lv := [some (vr 4107)]) (by decide) ckJ0_coder_7d493 [] rfl rfl ?_
      refine ⟨fun c => absurd c (show (¬ ((1 : Int) = 0)) from by decide), fun _ => ?_⟩
      refine ⟨1, (by decide), rfl, ?_⟩
      refine ⟨rfl, (by decide), ?_⟩
      refine ⟨rfl, ?_⟩
      refine ⟨fun c => absurd c (show (¬ ((2 : Int) ≤ 1)) from by decide), fun _ => ?_⟩
      refine ⟨_, rfl, (by decide), ?_⟩
      refine ⟨⟨_, rfl, (by decide)⟩, ?_⟩
      have n15 : (wr ((I 218 2) + 1)) = (I 218 2) + 1 := wr_id (show -2147483648 ≤ ((I 218 2) + 1 : Int) ∧ ((I 218 2) + 1 : Int) < 2147483648 from by omega)
      have z16 := TXT_z ht (wr ((I 218 2) + 1))
      have z17 : tt (wr ((I 218 2) + 1)) = tt ((I 218 2) + 1) := congrArg tt (by omega)
      refine c_byteAt9 (v0 := (wr ((I 218 2) + 1))) hF hR hx (hl) ht (fun vr18 hr19 q20 q21 => ?_)
      have hr19 : -2147483648 ≤ vr18 ∧ vr18 < 2147483648 := hr19
      have q20 : 32 ≤ vr18 ∧ vr18 ≤ 122 → tt ((wr ((I 218 2) + 1)) : Int) = vr18 := q20
      have q21 : ¬ (32 ≤ vr18 ∧ vr18 ≤ 122) → tt ((wr ((I 218 2) + 1)) : Int) = 0 := q21
      refine ⟨⟨1, (by decide), rfl⟩, ?_⟩
      refine Call_wp (lv := [some (vr 4107), some (vi 1)]) (by decide) ckJ0_charAt_5068e [] rfl rfl ?_
      refine ⟨⟨1, (by decide), rfl⟩, ?_⟩
      refine Call_wp (lv := [some (vr 4107)]) (by decide) ckJ0_isLatin1_aae02 [] rfl rfl ?_
      refine ⟨fun c => absurd c (show (¬ ((1 : Int) = 0)) from by decide), fun _ => ?_⟩
      refine ⟨1, (by decide), rfl, ?_⟩
      refine ⟨fun c => absurd (show ((0 : Int) = 0) from by decide) c, fun _ => ?_⟩
      refine ⟨rfl, (by decide), ?_⟩
      refine ⟨fun c => absurd c (show (¬ ((1 : Int) = 0)) from by decide), fun _ => ?_⟩
      refine ⟨1, (by decide), rfl, ?_⟩
      refine Call_wp (lv := [some (vr 4137), some (vi 1)]) (by decide) ckJ1_charAt_3b067 [] rfl rfl ?_
      refine Or.inr (Or.inr ⟨1, (by decide), rfl, ?_⟩)
      refine j_check (i := 1) (n := 2) (by omega) ?_
      refine ⟨1, (by decide), rfl, (by decide), (by decide), ?_⟩
      refine ⟨rfl, (by decide), ?_⟩
      refine ⟨rfl, (by decide), ?_⟩
      refine ⟨fun (c22 : ((vr18 : Int) = 111)) => ?_, fun (c22 : (¬ ((vr18 : Int) = 111))) => ?_⟩
      ·
        replace q20 : tt (wr ((I 218 2) + 1)) = 111 := by omega
        clear q21 z16
        refine ⟨⟨1, (by decide), rfl⟩, ?_⟩
        refine Call_wp (lv := [some (vr 4107)]) (by decide) ckJ0_length_8abf5 [] rfl rfl ?_
        refine ⟨1, (by decide), rfl, ?_⟩
        refine Or.inr (Or.inr ⟨1, (by decide), rfl, ?_⟩)
        refine ⟨⟨1, (by decide), rfl⟩, ?_⟩
        refine Call_wp (lv := [some (vr 4107)]) (by decide) ckJ0_coder_7d493 [] rfl rfl ?_
        refine ⟨fun c => absurd c (show (¬ ((1 : Int) = 0)) from by decide), fun _ => ?_⟩
        refine ⟨1, (by decide), rfl, ?_⟩
        refine ⟨rfl, (by decide), ?_⟩
        refine ⟨rfl, ?_⟩
        refine ⟨fun _ => ?_, fun c => absurd (show ((2 : Int) ≤ 2) from by decide) c⟩
        exact ⟨rfl, (by decide), fun hv hA' => hQ _ (hv _ rfl) (show 0 ≤ 1 ∧ 1 ≤ 1 from by decide) (show 1 = 1 → ((I 218 3) - (I 218 2) = 2 ∧ tt (I 218 2) = 103 ∧ tt ((I 218 2) + 1) = 111) from by first | with_reducible assumption | omega | (simp only [wr, wl] at *; omega)) (show 1 = 0 → ¬ ((I 218 3) - (I 218 2) = 2 ∧ tt (I 218 2) = 103 ∧ tt ((I 218 2) + 1) = 111) from fun z => absurd z (by decide))⟩
      ·
        replace q20 : ¬ tt (wr ((I 218 2) + 1)) = 111 := by omega
        clear q21 z16
        exact ⟨rfl, (by decide), fun hv hA' => hQ _ (hv _ rfl) (show 0 ≤ 0 ∧ 0 ≤ 1 from by decide) (show 0 = 1 → ((I 218 3) - (I 218 2) = 2 ∧ tt (I 218 2) = 103 ∧ tt ((I 218 2) + 1) = 111) from fun z => absurd z (by decide)) (show 0 = 0 → ¬ ((I 218 3) - (I 218 2) = 2 ∧ tt (I 218 2) = 103 ∧ tt ((I 218 2) + 1) = 111) from by first | with_reducible assumption | omega | (simp only [wr, wl] at *; omega))⟩
    ·
      replace q12 : ¬ tt (wr ((I 218 2) + 0)) = 103 := by omega
      clear q13 z8
      exact ⟨rfl, (by decide), fun hv hA' => hQ _ (hv _ rfl) (show 0 ≤ 0 ∧ 0 ≤ 1 from by decide) (show 0 = 1 → ((I 218 3) - (I 218 2) = 2 ∧ tt (I 218 2) = 103 ∧ tt ((I 218 2) + 1) = 111) from fun z => absurd z (by decide)) (show 0 = 0 → ¬ ((I 218 3) - (I 218 2) = 2 ∧ tt (I 218 2) = 103 ∧ tt ((I 218 2) + 1) = 111) from by first | with_reducible assumption | omega | (simp only [wr, wl] at *; omega))⟩
  ·
    exact ⟨rfl, (by decide), fun hv hA' => hQ _ (hv _ rfl) (show 0 ≤ 0 ∧ 0 ≤ 1 from by decide) (show 0 = 1 → ((I 218 3) - (I 218 2) = 2 ∧ tt (I 218 2) = 103 ∧ tt ((I 218 2) + 1) = 111) from fun z => absurd z (by decide)) (show 0 = 0 → ¬ ((I 218 3) - (I 218 2) = 2 ∧ tt (I 218 2) = 103 ∧ tt ((I 218 2) + 1) = 111) from by first | with_reducible assumption | omega | (simp only [wr, wl] at *; omega))⟩
theorem c_mk9_1 (hF : FS F) (hR : Rg I) (hx : F 218 0 = some 5) {tt : Int → Int} {nn : Int} (hl : I 218 1 = nn) (ht : TXT tt nn (I 5)) (hb : 0 ≤ I 218 2 ∧ I 218 2 ≤ I 218 3 ∧ I 218 3 ≤ nn) (h1 : mkW1 tt (I 218 2) (I 218 3) → I 218 3 - I 218 2 = 2 → Q (some (vi 1)) F I) (h0 : ¬ mkW1 tt (I 218 2) (I 218 3) → Q (some (vi 0)) F I) : CallN G (d + 4) kX9_isMark [vr 218, vr 4107] NP F I Q := by
  refine c_mark9_1 hF hR hx hl ht hb (fun r _ hr q1 q0 => ?_)
  by_cases e : r = 1
  · rw [e]; exact h1 (q1 e) (q1 e).1
  · have e0 : r = 0 := by omega
    rw [e0]; exact h0 (q0 e0)
theorem c_mark9_2 (hF : FS F) (hR : Rg I) (hx : F 218 0 = some 5) {tt : Int → Int} {nn : Int} (hl : I 218 1 = nn) (ht : TXT tt nn (I 5)) (hb : 0 ≤ I 218 2 ∧ I 218 2 ≤ I 218 3 ∧ I 218 3 ≤ nn) (hQ : ∀ r : Int, iR r → (0 ≤ r ∧ r ≤ 1) → (r = 1 → ((I 218 3) - (I 218 2) = 4 ∧ tt (I 218 2) = 108 ∧ tt ((I 218 2) + 1) = 111 ∧ tt ((I 218 2) + 2) = 97 ∧ tt ((I 218 2) + 3) = 100)) → (r = 0 → ¬ ((I 218 3) - (I 218 2) = 4 ∧ tt (I 218 2) = 108 ∧ tt ((I 218 2) + 1) = 111 ∧ tt ((I 218 2) + 2) = 97 ∧ tt ((I 218 2) + 3) = 100)) → Q (some (vi r)) F I) : CallN G (d + 4) kX9_isMark [vr 218, vr 4108] NP F I Q := by
  refine CallN_in (fun hok hA => CallN_out ?_)
  have hn2 := ht.1
  refine Call_wp (lv := [some (vr 218), some (vr 4108), none]) (by decide) ckX9_isMark [] rfl rfl ?_
  refine ⟨_, rfl, (by decide), ?_⟩
  have r1 : 0 ≤ (I 218 3) ∧ (I 218 3) ≤ 64 := (by omega)
  refine ⟨_, rfl, (by decide), ?_⟩
  have r2 : 0 ≤ (I 218 2) ∧ (I 218 2) ≤ 64 := (by omega)
  refine ⟨⟨2, (by decide), rfl⟩, ?_⟩
  refine Call_wp (lv := [some (vr 4108)]) (by decide) ckJ0_length_8abf5 [] rfl rfl ?_
  refine ⟨2, (by decide), rfl, ?_⟩
  refine Or.inr (Or.inr ⟨2, (by decide), rfl, ?_⟩)
  refine ⟨⟨2, (by decide), rfl⟩, ?_⟩
  refine Call_wp (lv := [some (vr 4108)]) (by decide) ckJ0_coder_7d493 [] rfl rfl ?_
  refine ⟨fun c => absurd c (show (¬ ((1 : Int) = 0)) from by decide), fun _ => ?_⟩
  refine ⟨2, (by decide), rfl, ?_⟩
  refine ⟨rfl, (by decide), ?_⟩
  refine ⟨rfl, ?_⟩
  have n5 : (wr ((I 218 3) - (I 218 2))) = (I 218 3) - (I 218 2) := wr_id (show -2147483648 ≤ ((I 218 3) - (I 218 2) : Int) ∧ ((I 218 3) - (I 218 2) : Int) < 2147483648 from by omega)
  refine ⟨fun (c6 : (((wr ((I 218 3) - (I 218 2))) : Int) = 4)) => ?_, fun (c6 : (¬ (((wr ((I 218 3) - (I 218 2))) : Int) = 4))) => ?_⟩
  ·
    refine ⟨⟨2, (by decide), rfl⟩, ?_⟩
    refine Call_wp (lv := [some (vr 4108)]) (by decide) ckJ0_length_8abf5 [] rfl rfl ?_
    refine ⟨2, (by decide), rfl, ?_⟩
    refine Or.inr (Or.inr ⟨2, (by decide), rfl, ?_⟩)
    refine ⟨⟨2, (by decide), rfl⟩, ?_⟩
    refine Call_wp (lv := [some (vr 4108)]) (by decide) ckJ0_coder_7d493 [] rfl rfl ?_
    refine ⟨fun c => absurd c (show (¬ ((1 : Int) = 0)) from by decide), fun _ => ?_⟩
    refine ⟨2, (by decide), rfl, ?_⟩
    refine ⟨rfl, (by decide), ?_⟩
    refine ⟨rfl, ?_⟩
    refine ⟨fun c => absurd c (show (¬ ((4 : Int) ≤ 0)) from by decide), fun _ => ?_⟩
    refine ⟨_, rfl, (by decide), ?_⟩
    refine ⟨⟨_, rfl, (by decide)⟩, ?_⟩
    have n7 : (wr ((I 218 2) + 0)) = (I 218 2) + 0 := wr_id (show -2147483648 ≤ ((I 218 2) + 0 : Int) ∧ ((I 218 2) + 0 : Int) < 2147483648 from by omega)
    have z8 := TXT_z ht (wr ((I 218 2) + 0))
    have z9 : tt (wr ((I 218 2) + 0)) = tt ((I 218 2)) := congrArg tt (by omega)
    refine c_byteAt9 (v0 := (wr ((I 218 2) + 0))) hF hR hx (hl) ht (fun vr10 hr11 q12 q13 => ?_)
    have hr11 : -2147483648 ≤ vr10 ∧ vr10 < 2147483648 := hr11
    have q12 : 32 ≤ vr10 ∧ vr10 ≤ 122 → tt ((wr ((I 218 2) + 0)) : Int) = vr10 := q12
    have q13 : ¬ (32 ≤ vr10 ∧ vr10 ≤ 122) → tt ((wr ((I 218 2) + 0)) : Int) = 0 := q13
    refine ⟨⟨2, (by decide), rfl⟩, ?_⟩
    refine Call_wp (lv := [some (vr 4108), some (vi 0)]) (by decide) ckJ0_charAt_5068e [] rfl rfl ?_
    refine ⟨⟨2, (by decide), rfl⟩, ?_⟩
    refine Call_wp (lv := [some (vr 4108)]) (by decide) ckJ0_isLatin1_aae02 [] rfl rfl ?_
    refine ⟨fun c => absurd c (show (¬ ((1 : Int) = 0)) from by decide), fun _ => ?_⟩
    refine ⟨2, (by decide), rfl, ?_⟩
    refine ⟨fun c => absurd (show ((0 : Int) = 0) from by decide) c, fun _ => ?_⟩
    refine ⟨rfl, (by decide), ?_⟩
    refine ⟨fun c => absurd c (show (¬ ((1 : Int) = 0)) from by decide), fun _ => ?_⟩
    refine ⟨2, (by decide), rfl, ?_⟩
    refine Call_wp (lv := [some (vr 4138), some (vi 0)]) (by decide) ckJ1_charAt_3b067 [] rfl rfl ?_
    refine Or.inr (Or.inr ⟨2, (by decide), rfl, ?_⟩)
    refine j_check (i := 0) (n := 4) (by omega) ?_
    refine ⟨2, (by decide), rfl, (by decide), (by decide), ?_⟩
    refine ⟨rfl, (by decide), ?_⟩
    refine ⟨rfl, (by decide), ?_⟩
    refine ⟨fun (c14 : ((vr10 : Int) = 108)) => ?_, fun (c14 : (¬ ((vr10 : Int) = 108))) => ?_⟩
    ·
      replace q12 : tt (wr ((I 218 2) + 0)) = 108 := by omega
      clear q13 z8
      refine ⟨⟨2, (by decide), rfl⟩, ?_⟩
      refine Call_wp (lv := [some (vr 4108)]) (by decide) ckJ0_length_8abf5 [] rfl rfl ?_
      refine ⟨2, (by decide), rfl, ?_⟩
      refine Or.inr (Or.inr ⟨2, (by decide), rfl, ?_⟩)
      refine ⟨⟨2, (by decide), rfl⟩, ?_⟩
      refine Call_wp (lv := [some (vr 4108)]) (by decide) ckJ0_coder_7d493 [] rfl rfl ?_
      refine ⟨fun c => absurd c (show (¬ ((1 : Int) = 0)) from by decide), fun _ => ?_⟩
      refine ⟨2, (by decide), rfl, ?_⟩
      refine ⟨rfl, (by decide), ?_⟩
      refine ⟨rfl, ?_⟩
      refine ⟨fun c => absurd c (show (¬ ((4 : Int) ≤ 1)) from by decide), fun _ => ?_⟩
      refine ⟨_, rfl, (by decide), ?_⟩
      refine ⟨⟨_, rfl, (by decide)⟩, ?_⟩
      have n15 : (wr ((I 218 2) + 1)) = (I 218 2) + 1 := wr_id (show -2147483648 ≤ ((I 218 2) + 1 : Int) ∧ ((I 218 2) + 1 : Int) < 2147483648 from by omega)
      have z16 := TXT_z ht (wr ((I 218 2) + 1))
      have z17 : tt (wr ((I 218 2) + 1)) = tt ((I 218 2) + 1) := congrArg tt (by omega)
      refine c_byteAt9 (v0 := (wr ((I 218 2) + 1))) hF hR hx (hl) ht (fun vr18 hr19 q20 q21 => ?_)
      have hr19 : -2147483648 ≤ vr18 ∧ vr18 < 2147483648 := hr19
      have q20 : 32 ≤ vr18 ∧ vr18 ≤ 122 → tt ((wr ((I 218 2) + 1)) : Int) = vr18 := q20
      have q21 : ¬ (32 ≤ vr18 ∧ vr18 ≤ 122) → tt ((wr ((I 218 2) + 1)) : Int) = 0 := q21
      refine ⟨⟨2, (by decide), rfl⟩, ?_⟩
      refine Call_wp (lv := [some (vr 4108), some (vi 1)]) (by decide) ckJ0_charAt_5068e [] rfl rfl ?_
      refine ⟨⟨2, (by decide), rfl⟩, ?_⟩
      refine Call_wp (lv := [some (vr 4108)]) (by decide) ckJ0_isLatin1_aae02 [] rfl rfl ?_
      refine ⟨fun c => absurd c (show (¬ ((1 : Int) = 0)) from by decide), fun _ => ?_⟩
      refine ⟨2, (by decide), rfl, ?_⟩
      refine ⟨fun c => absurd (show ((0 : Int) = 0) from by decide) c, fun _ => ?_⟩
      refine ⟨rfl, (by decide), ?_⟩
      refine ⟨fun c => absurd c (show (¬ ((1 : Int) = 0)) from by decide), fun _ => ?_⟩
      refine ⟨2, (by decide), rfl, ?_⟩
      refine Call_wp (lv := [some (vr 4138), some (vi 1)]) (by decide) ckJ1_charAt_3b067 [] rfl rfl ?_
      refine Or.inr (Or.inr ⟨2, (by decide), rfl, ?_⟩)
      refine j_check (i := 1) (n := 4) (by omega) ?_
      refine ⟨2, (by decide), rfl, (by decide), (by decide), ?_⟩
      refine ⟨rfl, (by decide), ?_⟩
      refine ⟨rfl, (by decide), ?_⟩
      refine ⟨fun (c22 : ((vr18 : Int) = 111)) => ?_, fun (c22 : (¬ ((vr18 : Int) = 111))) => ?_⟩
      ·
        replace q20 : tt (wr ((I 218 2) + 1)) = 111 := by omega
        clear q21 z16
        refine ⟨⟨2, (by decide), rfl⟩, ?_⟩
        refine Call_wp (lv := [some (vr 4108)]) (by decide) ckJ0_length_8abf5 [] rfl rfl ?_
        refine ⟨2, (by decide), rfl, ?_⟩
        refine Or.inr (Or.inr ⟨2, (by decide), rfl, ?_⟩)
        refine ⟨⟨2, (by decide), rfl⟩, ?_⟩
        refine Call_wp (lv := [some (vr 4108)]) (by decide) ckJ0_coder_7d493 [] rfl rfl ?_
        refine ⟨fun c => absurd c (show (¬ ((1 : Int) = 0)) from by decide), fun _ => ?_⟩
        refine ⟨2, (by decide), rfl, ?_⟩
        refine ⟨rfl, (by decide), ?_⟩
        refine ⟨rfl, ?_⟩
        refine ⟨fun c => absurd c (show (¬ ((4 : Int) ≤ 2)) from by decide), fun _ => ?_⟩
        refine ⟨_, rfl, (by decide), ?_⟩
        refine ⟨⟨_, rfl, (by decide)⟩, ?_⟩
        have n23 : (wr ((I 218 2) + 2)) = (I 218 2) + 2 := wr_id (show -2147483648 ≤ ((I 218 2) + 2 : Int) ∧ ((I 218 2) + 2 : Int) < 2147483648 from by omega)
        have z24 := TXT_z ht (wr ((I 218 2) + 2))
        have z25 : tt (wr ((I 218 2) + 2)) = tt ((I 218 2) + 2) := congrArg tt (by omega)
        refine c_byteAt9 (v0 := (wr ((I 218 2) + 2))) hF hR hx (hl) ht (fun vr26 hr27 q28 q29 => ?_)
        have hr27 : -2147483648 ≤ vr26 ∧ vr26 < 2147483648 := hr27
        have q28 : 32 ≤ vr26 ∧ vr26 ≤ 122 → tt ((wr ((I 218 2) + 2)) : Int) = vr26 := q28
        have q29 : ¬ (32 ≤ vr26 ∧ vr26 ≤ 122) → tt ((wr ((I 218 2) + 2)) : Int) = 0 := q29
        refine ⟨⟨2, (by decide), rfl⟩, ?_⟩
        refine Call_wp (lv := [some (vr 4108), some (vi 2)]) (by decide) ckJ0_charAt_5068e [] rfl rfl ?_
        refine ⟨⟨2, (by decide), rfl⟩, ?_⟩
        refine Call_wp (lv := [some (vr 4108)]) (by decide) ckJ0_isLatin1_aae02 [] rfl rfl ?_
        refine ⟨fun c => absurd c (show (¬ ((1 : Int) = 0)) from by decide), fun _ => ?_⟩
        refine ⟨2, (by decide), rfl, ?_⟩
        refine ⟨fun c => absurd (show ((0 : Int) = 0) from by decide) c, fun _ => ?_⟩
        refine ⟨rfl, (by decide), ?_⟩
        refine ⟨fun c => absurd c (show (¬ ((1 : Int) = 0)) from by decide), fun _ => ?_⟩
        refine ⟨2, (by decide), rfl, ?_⟩
        refine Call_wp (lv := [some (vr 4138), some (vi 2)]) (by decide) ckJ1_charAt_3b067 [] rfl rfl ?_
        refine Or.inr (Or.inr ⟨2, (by decide), rfl, ?_⟩)
        refine j_check (i := 2) (n := 4) (by omega) ?_
        refine ⟨2, (by decide), rfl, (by decide), (by decide), ?_⟩
        refine ⟨rfl, (by decide), ?_⟩
        refine ⟨rfl, (by decide), ?_⟩
        refine ⟨fun (c30 : ((vr26 : Int) = 97)) => ?_, fun (c30 : (¬ ((vr26 : Int) = 97))) => ?_⟩
        ·
          replace q28 : tt (wr ((I 218 2) + 2)) = 97 := by omega
          clear q29 z24
          refine ⟨⟨2, (by decide), rfl⟩, ?_⟩
          refine Call_wp (lv := [some (vr 4108)]) (by decide) ckJ0_length_8abf5 [] rfl rfl ?_
          refine ⟨2, (by decide), rfl, ?_⟩
          refine Or.inr (Or.inr ⟨2, (by decide), rfl, ?_⟩)
          refine ⟨⟨2, (by decide), rfl⟩, ?_⟩
          refine Call_wp (lv := [some (vr 4108)]) (by decide) ckJ0_coder_7d493 [] rfl rfl ?_
          refine ⟨fun c => absurd c (show (¬ ((1 : Int) = 0)) from by decide), fun _ => ?_⟩
          refine ⟨2, (by decide), rfl, ?_⟩
          refine ⟨rfl, (by decide), ?_⟩
          refine ⟨rfl, ?_⟩
          refine ⟨fun c => absurd c (show (¬ ((4 : Int) ≤ 3)) from by decide), fun _ => ?_⟩
          refine ⟨_, rfl, (by decide), ?_⟩
          refine ⟨⟨_, rfl, (by decide)⟩, ?_⟩
          have n31 : (wr ((I 218 2) + 3)) = (I 218 2) + 3 := wr_id (show -2147483648 ≤ ((I 218 2) + 3 : Int) ∧ ((I 218 2) + 3 : Int) < 2147483648 from by omega)
          have z32 := TXT_z ht (wr ((I 218 2) + 3))
          have z33 : tt (wr ((I 218 2) + 3)) = tt ((I 218 2) + 3) := congrArg tt (by omega)
          refine c_byteAt9 (v0 := (wr ((I 218 2) + 3))) hF hR hx (hl) ht (fun vr34 hr35 q36 q37 => ?_)
          have hr35 : -2147483648 ≤ vr34 ∧ vr34 < 2147483648 := hr35
          have q36 : 32 ≤ vr34 ∧ vr34 ≤ 122 → tt ((wr ((I 218 2) + 3)) : Int) = vr34 := q36
          have q37 : ¬ (32 ≤ vr34 ∧ vr34 ≤ 122) → tt ((wr ((I 218 2) + 3)) : Int) = 0 := q37
          refine ⟨⟨2, (by decide), rfl⟩, ?_⟩
          refine Call_wp (lv := [some (vr 4108), some (vi 3)]) (by decide) ckJ0_charAt_5068e [] rfl rfl ?_
          refine ⟨⟨2, (by decide), rfl⟩, ?_⟩
          refine Call_wp (lv := [some (vr 4108)]) (by decide) ckJ0_isLatin1_aae02 [] rfl rfl ?_
          refine ⟨fun c => absurd c (show (¬ ((1 : Int) = 0)) from by decide), fun _ => ?_⟩
          refine ⟨2, (by decide), rfl, ?_⟩
          refine ⟨fun c => absurd (show ((0 : Int) = 0) from by decide) c, fun _ => ?_⟩
          refine ⟨rfl, (by decide), ?_⟩
          refine ⟨fun c => absurd c (show (¬ ((1 : Int) = 0)) from by decide), fun _ => ?_⟩
          refine ⟨2, (by decide), rfl, ?_⟩
          refine Call_wp (lv := [some (vr 4138), some (vi 3)]) (by decide) ckJ1_charAt_3b067 [] rfl rfl ?_
          refine Or.inr (Or.inr ⟨2, (by decide), rfl, ?_⟩)
          refine j_check (i := 3) (n := 4) (by omega) ?_
          refine ⟨2, (by decide), rfl, (by decide), (by decide), ?_⟩
          refine ⟨rfl, (by decide), ?_⟩
          refine ⟨rfl, (by decide), ?_⟩
          refine ⟨fun (c38 : ((vr34 : Int) = 100)) => ?_, fun (c38 : (¬ ((vr34 : Int) = 100))) => ?_⟩
          ·
            replace q36 : tt (wr ((I 218 2) + 3)) = 100 := by omega
            clear q37 z32
            refine ⟨⟨2, (by decide), rfl⟩, ?_⟩
            refine Call_wp (lv := [some (vr 4108)]) (by decide) ckJ0_length_8abf5 [] rfl rfl ?_
            refine ⟨2, (by decide), rfl, ?_⟩
            refine Or.inr (Or.inr ⟨2, (by decide), rfl, ?_⟩)
            refine ⟨⟨2, (by decide), rfl⟩, ?_⟩
            refine Call_wp (lv := [some (vr 4108)]) (by decide) ckJ0_coder_7d493 [] rfl rfl ?_
            refine ⟨fun c => absurd c (show (¬ ((1 : Int) = 0)) from by decide), fun _ => ?_⟩
            refine ⟨2, (by decide), rfl, ?_⟩
            refine ⟨rfl, (by decide), ?_⟩
            refine ⟨rfl, ?_⟩
            refine ⟨fun _ => ?_, fun c => absurd (show ((4 : Int) ≤ 4) from by decide) c⟩
            exact ⟨rfl, (by decide), fun hv hA' => hQ _ (hv _ rfl) (show 0 ≤ 1 ∧ 1 ≤ 1 from by decide) (show 1 = 1 → ((I 218 3) - (I 218 2) = 4 ∧ tt (I 218 2) = 108 ∧ tt ((I 218 2) + 1) = 111 ∧ tt ((I 218 2) + 2) = 97 ∧ tt ((I 218 2) + 3) = 100) from by first | omega | (simp only [wr, wl] at *; omega)) (show 1 = 0 → ¬ ((I 218 3) - (I 218 2) = 4 ∧ tt (I 218 2) = 108 ∧ tt ((I 218 2) + 1) = 111 ∧ tt ((I 218 2) + 2) = 97 ∧ tt ((I 218 2) + 3) = 100) from fun z => absurd z (by decide))⟩
          ·
            replace q36 : ¬ tt (wr ((I 218 2) + 3)) = 100 := by omega
            clear q37 z32
            exact ⟨rfl, (by decide), fun hv hA' => hQ _ (hv _ rfl) (show 0 ≤ 0 ∧ 0 ≤ 1 from by decide) (show 0 = 1 → ((I 218 3) - (I 218 2) = 4 ∧ tt (I 218 2) = 108 ∧ tt ((I 218 2) + 1) = 111 ∧ tt ((I 218 2) + 2) = 97 ∧ tt ((I 218 2) + 3) = 100) from fun z => absurd z (by decide)) (show 0 = 0 → ¬ ((I 218 3) - (I 218 2) = 4 ∧ tt (I 218 2) = 108 ∧ tt ((I 218 2) + 1) = 111 ∧ tt ((I 218 2) + 2) = 97 ∧ tt ((I 218 2) + 3) = 100) from by first | omega | (simp only [wr, wl] at *; omega))⟩
        ·
          replace q28 : ¬ tt (wr ((I 218 2) + 2)) = 97 := by omega
          clear q29 z24
          exact ⟨rfl, (by decide), fun hv hA' => hQ _ (hv _ rfl) (show 0 ≤ 0 ∧ 0 ≤ 1 from by decide) (show 0 = 1 → ((I 218 3) - (I 218 2) = 4 ∧ tt (I 218 2) = 108 ∧ tt ((I 218 2) + 1) = 111 ∧ tt ((I 218 2) + 2) = 97 ∧ tt ((I 218 2) + 3) = 100) from fun z => absurd z (by decide)) (show 0 = 0 → ¬ ((I 218 3) - (I 218 2) = 4 ∧ tt (I 218 2) = 108 ∧ tt ((I 218 2) + 1) = 111 ∧ tt ((I 218 2) + 2) = 97 ∧ tt ((I 218 2) + 3) = 100) from by first | omega | (simp only [wr, wl] at *; omega))⟩
      ·
        replace q20 : ¬ tt (wr ((I 218 2) + 1)) = 111 := by omega
        clear q21 z16
        exact ⟨rfl, (by decide), fun hv hA' => hQ _ (hv _ rfl) (show 0 ≤ 0 ∧ 0 ≤ 1 from by decide) (show 0 = 1 → ((I 218 3) - (I 218 2) = 4 ∧ tt (I 218 2) = 108 ∧ tt ((I 218 2) + 1) = 111 ∧ tt ((I 218 2) + 2) = 97 ∧ tt ((I 218 2) + 3) = 100) from fun z => absurd z (by decide)) (show 0 = 0 → ¬ ((I 218 3) - (I 218 2) = 4 ∧ tt (I 218 2) = 108 ∧ tt ((I 218 2) + 1) = 111 ∧ tt ((I 218 2) + 2) = 97 ∧ tt ((I 218 2) + 3) = 100) from by first | omega | (simp only [wr, wl] at *; omega))⟩
    ·
      replace q12 : ¬ tt (wr ((I 218 2) + 0)) = 108 := by omega
      clear q13 z8
      exact ⟨rfl, (by decide), fun hv hA' => hQ _ (hv _ rfl) (show 0 ≤ 0 ∧ 0 ≤ 1 from by decide) (show 0 = 1 → ((I 218 3) - (I 218 2) = 4 ∧ tt (I 218 2) = 108 ∧ tt ((I 218 2) + 1) = 111 ∧ tt ((I 218 2) + 2) = 97 ∧ tt ((I 218 2) + 3) = 100) from fun z => absurd z (by decide)) (show 0 = 0 → ¬ ((I 218 3) - (I 218 2) = 4 ∧ tt (I 218 2) = 108 ∧ tt ((I 218 2) + 1) = 111 ∧ tt ((I 218 2) + 2) = 97 ∧ tt ((I 218 2) + 3) = 100) from by first | omega | (simp only [wr, wl] at *; omega))⟩
  ·
    exact ⟨rfl, (by decide), fun hv hA' => hQ _ (hv _ rfl) (show 0 ≤ 0 ∧ 0 ≤ 1 from by decide) (show 0 = 1 → ((I 218 3) - (I 218 2) = 4 ∧ tt (I 218 2) = 108 ∧ tt ((I 218 2) + 1) = 111 ∧ tt ((I 218 2) + 2) = 97 ∧ tt ((I 218 2) + 3) = 100) from fun z => absurd z (by decide)) (show 0 = 0 → ¬ ((I 218 3) - (I 218 2) = 4 ∧ tt (I 218 2) = 108 ∧ tt ((I 218 2) + 1) = 111 ∧ tt ((I 218 2) + 2) = 97 ∧ tt ((I 218 2) + 3) = 100) from by first | omega | (simp only [wr, wl] at *; omega))⟩
theorem c_mk9_2 (hF : FS F) (hR : Rg I) (hx : F 218 0 = some 5) {tt : Int → Int} {nn : Int} (hl : I 218 1 = nn) (ht : TXT tt nn (I 5)) (hb : 0 ≤ I 218 2 ∧ I 218 2 ≤ I 218 3 ∧ I 218 3 ≤ nn) (h1 : mkW2 tt (I 218 2) (I 218 3) → I 218 3 - I 218 2 = 4 → Q (some (vi 1)) F I) (h0 : ¬ mkW2 tt (I 218 2) (I 218 3) → Q (some (vi 0)) F I) : CallN G (d + 4) kX9_isMark [vr 218, vr 4108] NP F I Q := by
  refine c_mark9_2 hF hR hx hl ht hb (fun r _ hr q1 q0 => ?_)
  by_cases e : r = 1
  · rw [e]; exact h1 (q1 e) (q1 e).1
  · have e0 : r = 0 := by omega
    rw [e0]; exact h0 (q0 e0)
theorem c_mark9_3 (hF : FS F) (hR : Rg I) (hx : F 218 0 = some 5) {tt : Int → Int} {nn : Int} (hl : I 218 1 = nn) (ht : TXT tt nn (I 5)) (hb : 0 ≤ I 218 2 ∧ I 218 2 ≤ I 218 3 ∧ I 218 3 ≤ nn) (hQ : ∀ r : Int, iR r → (0 ≤ r ∧ r ≤ 1) → (r = 1 → ((I 218 3) - (I 218 2) = 4 ∧ tt (I 218 2) = 104 ∧ tt ((I 218 2) + 1) = 111 ∧ tt ((I 218 2) + 2) = 108 ∧ tt ((I 218 2) + 3) = 100)) → (r = 0 → ¬ ((I 218 3) - (I 218 2) = 4 ∧ tt (I 218 2) = 104 ∧ tt ((I 218 2) + 1) = 111 ∧ tt ((I 218 2) + 2) = 108 ∧ tt ((I 218 2) + 3) = 100)) → Q (some (vi r)) F I) : CallN G (d + 4) kX9_isMark [vr 218, vr 4109] NP F I Q := by
  refine CallN_in (fun hok hA => CallN_out ?_)
  have hn2 := ht.1
  refine Call_wp (lv := [some (vr 218), some (vr 4109), none]) (by decide) ckX9_isMark [] rfl rfl ?_
  refine ⟨_, rfl, (by decide), ?_⟩
  have r1 : 0 ≤ (I 218 3) ∧ (I 218 3) ≤ 64 := (by omega)
  refine ⟨_, rfl, (by decide), ?_⟩
  have r2 : 0 ≤ (I 218 2) ∧ (I 218 2) ≤ 64 := (by omega)
  refine ⟨⟨3, (by decide), rfl⟩, ?_⟩
  refine Call_wp (lv := [some (vr 4109)]) (by decide) ckJ0_length_8abf5 [] rfl rfl ?_
  refine ⟨3, (by decide), rfl, ?_⟩
  refine Or.inr (Or.inr ⟨3, (by decide), rfl, ?_⟩)
  refine ⟨⟨3, (by decide), rfl⟩, ?_⟩
  refine Call_wp (lv := [some (vr 4109)]) (by decide) ckJ0_coder_7d493 [] rfl rfl ?_
  refine ⟨fun c => absurd c (show (¬ ((1 : Int) = 0)) from by decide), fun _ => ?_⟩
  refine ⟨3, (by decide), rfl, ?_⟩
  refine ⟨rfl, (by decide), ?_⟩
  refine ⟨rfl, ?_⟩
  have n5 : (wr ((I 218 3) - (I 218 2))) = (I 218 3) - (I 218 2) := wr_id (show -2147483648 ≤ ((I 218 3) - (I 218 2) : Int) ∧ ((I 218 3) - (I 218 2) : Int) < 2147483648 from by omega)
  refine ⟨fun (c6 : (((wr ((I 218 3) - (I 218 2))) : Int) = 4)) => ?_, fun (c6 : (¬ (((wr ((I 218 3) - (I 218 2))) : Int) = 4))) => ?_⟩
  ·
    refine ⟨⟨3, (by decide), rfl⟩, ?_⟩
    refine Call_wp (lv := [some (vr 4109)]) (by decide) ckJ0_length_8abf5 [] rfl rfl ?_
    refine ⟨3, (by decide), rfl, ?_⟩
    refine Or.inr (Or.inr ⟨3, (by decide), rfl, ?_⟩)
    refine ⟨⟨3, (by decide), rfl⟩, ?_⟩
    refine Call_wp (lv := [some (vr 4109)]) (by decide) ckJ0_coder_7d493 [] rfl rfl ?_
    refine ⟨fun c => absurd c (show (¬ ((1 : Int) = 0)) from by decide), fun _ => ?_⟩
    refine ⟨3, (by decide), rfl, ?_⟩
    refine ⟨rfl, (by decide), ?_⟩
    refine ⟨rfl, ?_⟩
    refine ⟨fun c => absurd c (show (¬ ((4 : Int) ≤ 0)) from by decide), fun _ => ?_⟩
    refine ⟨_, rfl, (by decide), ?_⟩
    refine ⟨⟨_, rfl, (by decide)⟩, ?_⟩
    have n7 : (wr ((I 218 2) + 0)) = (I 218 2) + 0 := wr_id (show -2147483648 ≤ ((I 218 2) + 0 : Int) ∧ ((I 218 2) + 0 : Int) < 2147483648 from by omega)
    have z8 := TXT_z ht (wr ((I 218 2) + 0))
    have z9 : tt (wr ((I 218 2) + 0)) = tt ((I 218 2)) := congrArg tt (by omega)
    refine c_byteAt9 (v0 := (wr ((I 218 2) + 0))) hF hR hx (hl) ht (fun vr10 hr11 q12 q13 => ?_)
    have hr11 : -2147483648 ≤ vr10 ∧ vr10 < 2147483648 := hr11
    have q12 : 32 ≤ vr10 ∧ vr10 ≤ 122 → tt ((wr ((I 218 2) + 0)) : Int) = vr10 := q12
    have q13 : ¬ (32 ≤ vr10 ∧ vr10 ≤ 122) → tt ((wr ((I 218 2) + 0)) : Int) = 0 := q13
    refine ⟨⟨3, (by decide), rfl⟩, ?_⟩
    refine Call_wp (lv := [some (vr 4109), some (vi 0)]) (by decide) ckJ0_charAt_5068e [] rfl rfl ?_
    refine ⟨⟨3, (by decide), rfl⟩, ?_⟩
    refine Call_wp (lv := [some (vr 4109)]) (by decide) ckJ0_isLatin1_aae02 [] rfl rfl ?_
    refine ⟨fun c => absurd c (show (¬ ((1 : Int) = 0)) from by decide), fun _ => ?_⟩
    refine ⟨3, (by decide), rfl, ?_⟩
    refine ⟨fun c => absurd (show ((0 : Int) = 0) from by decide) c, fun _ => ?_⟩
    refine ⟨rfl, (by decide), ?_⟩
    refine ⟨fun c => absurd c (show (¬ ((1 : Int) = 0)) from by decide), fun _ => ?_⟩
    refine ⟨3, (by decide), rfl, ?_⟩
    refine Call_wp (lv := [some (vr 4139), some (vi 0)]) (by decide) ckJ1_charAt_3b067 [] rfl rfl ?_
    refine Or.inr (Or.inr ⟨3, (by decide), rfl, ?_⟩)
    refine j_check (i := 0) (n := 4) (by omega) ?_
    refine ⟨3, (by decide), rfl, (by decide), (by decide), ?_⟩
    refine ⟨rfl, (by decide), ?_⟩
    refine ⟨rfl, (by decide), ?_⟩
    refine ⟨fun (c14 : ((vr10 : Int) = 104)) => ?_, fun (c14 : (¬ ((vr10 : Int) = 104))) => ?_⟩
    ·
      replace q12 : tt (wr ((I 218 2) + 0)) = 104 := by omega
      clear q13 z8
      refine ⟨⟨3, (by decide), rfl⟩, ?_⟩
      refine Call_wp (lv := [some (vr 4109)]) (by decide) ckJ0_length_8abf5 [] rfl rfl ?_
      refine ⟨3, (by decide), rfl, ?_⟩
      refine Or.inr (Or.inr ⟨3, (by decide), rfl, ?_⟩)
      refine ⟨⟨3, (by decide), rfl⟩, ?_⟩
      refine Call_wp (lv := [some (vr 4109)]) (by decide) ckJ0_coder_7d493 [] rfl rfl ?_
      refine ⟨fun c => absurd c (show (¬ ((1 : Int) = 0)) from by decide), fun _ => ?_⟩
      refine ⟨3, (by decide), rfl, ?_⟩
      refine ⟨rfl, (by decide), ?_⟩
      refine ⟨rfl, ?_⟩
      refine ⟨fun c => absurd c (show (¬ ((4 : Int) ≤ 1)) from by decide), fun _ => ?_⟩
      refine ⟨_, rfl, (by decide), ?_⟩
      refine ⟨⟨_, rfl, (by decide)⟩, ?_⟩
      have n15 : (wr ((I 218 2) + 1)) = (I 218 2) + 1 := wr_id (show -2147483648 ≤ ((I 218 2) + 1 : Int) ∧ ((I 218 2) + 1 : Int) < 2147483648 from by omega)
      have z16 := TXT_z ht (wr ((I 218 2) + 1))
      have z17 : tt (wr ((I 218 2) + 1)) = tt ((I 218 2) + 1) := congrArg tt (by omega)
      refine c_byteAt9 (v0 := (wr ((I 218 2) + 1))) hF hR hx (hl) ht (fun vr18 hr19 q20 q21 => ?_)
      have hr19 : -2147483648 ≤ vr18 ∧ vr18 < 2147483648 := hr19
      have q20 : 32 ≤ vr18 ∧ vr18 ≤ 122 → tt ((wr ((I 218 2) + 1)) : Int) = vr18 := q20
      have q21 : ¬ (32 ≤ vr18 ∧ vr18 ≤ 122) → tt ((wr ((I 218 2) + 1)) : Int) = 0 := q21
      refine ⟨⟨3, (by decide), rfl⟩, ?_⟩
      refine Call_wp (lv := [some (vr 4109), some (vi 1)]) (by decide) ckJ0_charAt_5068e [] rfl rfl ?_
      refine ⟨⟨3, (by decide), rfl⟩, ?_⟩
      refine Call_wp (lv := [some (vr 4109)]) (by decide) ckJ0_isLatin1_aae02 [] rfl rfl ?_
      refine ⟨fun c => absurd c (show (¬ ((1 : Int) = 0)) from by decide), fun _ => ?_⟩
      refine ⟨3, (by decide), rfl, ?_⟩
      refine ⟨fun c => absurd (show ((0 : Int) = 0) from by decide) c, fun _ => ?_⟩
      refine ⟨rfl, (by decide), ?_⟩
      refine ⟨fun c => absurd c (show (¬ ((1 : Int) = 0)) from by decide), fun _ => ?_⟩
      refine ⟨3, (by decide), rfl, ?_⟩
      refine Call_wp (lv := [some (vr 4139), some (vi 1)]) (by decide) ckJ1_charAt_3b067 [] rfl rfl ?_
      refine Or.inr (Or.inr ⟨3, (by decide), rfl, ?_⟩)
      refine j_check (i := 1) (n := 4) (by omega) ?_
      refine ⟨3, (by decide), rfl, (by decide), (by decide), ?_⟩
      refine ⟨rfl, (by decide), ?_⟩
      refine ⟨rfl, (by decide), ?_⟩
      refine ⟨fun (c22 : ((vr18 : Int) = 111)) => ?_, fun (c22 : (¬ ((vr18 : Int) = 111))) => ?_⟩
      ·
        replace q20 : tt (wr ((I 218 2) + 1)) = 111 := by omega
        clear q21 z16
        refine ⟨⟨3, (by decide), rfl⟩, ?_⟩
        refine Call_wp (lv := [some (vr 4109)]) (by decide) ckJ0_length_8abf5 [] rfl rfl ?_
        refine ⟨3, (by decide), rfl, ?_⟩
        refine Or.inr (Or.inr ⟨3, (by decide), rfl, ?_⟩)
        refine ⟨⟨3, (by decide), rfl⟩, ?_⟩
        refine Call_wp (lv := [some (vr 4109)]) (by decide) ckJ0_coder_7d493 [] rfl rfl ?_
        refine ⟨fun c => absurd c (show (¬ ((1 : Int) = 0)) from by decide), fun _ => ?_⟩
        refine ⟨3, (by decide), rfl, ?_⟩
        refine ⟨rfl, (by decide), ?_⟩
        refine ⟨rfl, ?_⟩
        refine ⟨fun c => absurd c (show (¬ ((4 : Int) ≤ 2)) from by decide), fun _ => ?_⟩
        refine ⟨_, rfl, (by decide), ?_⟩
        refine ⟨⟨_, rfl, (by decide)⟩, ?_⟩
        have n23 : (wr ((I 218 2) + 2)) = (I 218 2) + 2 := wr_id (show -2147483648 ≤ ((I 218 2) + 2 : Int) ∧ ((I 218 2) + 2 : Int) < 2147483648 from by omega)
        have z24 := TXT_z ht (wr ((I 218 2) + 2))
        have z25 : tt (wr ((I 218 2) + 2)) = tt ((I 218 2) + 2) := congrArg tt (by omega)
        refine c_byteAt9 (v0 := (wr ((I 218 2) + 2))) hF hR hx (hl) ht (fun vr26 hr27 q28 q29 => ?_)
        have hr27 : -2147483648 ≤ vr26 ∧ vr26 < 2147483648 := hr27
        have q28 : 32 ≤ vr26 ∧ vr26 ≤ 122 → tt ((wr ((I 218 2) + 2)) : Int) = vr26 := q28
        have q29 : ¬ (32 ≤ vr26 ∧ vr26 ≤ 122) → tt ((wr ((I 218 2) + 2)) : Int) = 0 := q29
        refine ⟨⟨3, (by decide), rfl⟩, ?_⟩
        refine Call_wp (lv := [some (vr 4109), some (vi 2)]) (by decide) ckJ0_charAt_5068e [] rfl rfl ?_
        refine ⟨⟨3, (by decide), rfl⟩, ?_⟩
        refine Call_wp (lv := [some (vr 4109)]) (by decide) ckJ0_isLatin1_aae02 [] rfl rfl ?_
        refine ⟨fun c => absurd c (show (¬ ((1 : Int) = 0)) from by decide), fun _ => ?_⟩
        refine ⟨3, (by decide), rfl, ?_⟩
        refine ⟨fun c => absurd (show ((0 : Int) = 0) from by decide) c, fun _ => ?_⟩
        refine ⟨rfl, (by decide), ?_⟩
        refine ⟨fun c => absurd c (show (¬ ((1 : Int) = 0)) from by decide), fun _ => ?_⟩
        refine ⟨3, (by decide), rfl, ?_⟩
        refine Call_wp (lv := [some (vr 4139), some (vi 2)]) (by decide) ckJ1_charAt_3b067 [] rfl rfl ?_
        refine Or.inr (Or.inr ⟨3, (by decide), rfl, ?_⟩)
        refine j_check (i := 2) (n := 4) (by omega) ?_
        refine ⟨3, (by decide), rfl, (by decide), (by decide), ?_⟩
        refine ⟨rfl, (by decide), ?_⟩
        refine ⟨rfl, (by decide), ?_⟩
        refine ⟨fun (c30 : ((vr26 : Int) = 108)) => ?_, fun (c30 : (¬ ((vr26 : Int) = 108))) => ?_⟩
        ·
          replace q28 : tt (wr ((I 218 2) + 2)) = 108 := by omega
          clear q29 z24
          refine ⟨⟨3, (by decide), rfl⟩, ?_⟩
          refine Call_wp (lv := [some (vr 4109)]) (by decide) ckJ0_length_8abf5 [] rfl rfl ?_
          refine ⟨3, (by decide), rfl, ?_⟩
          refine Or.inr (Or.inr ⟨3, (by decide), rfl, ?_⟩)
          refine ⟨⟨3, (by decide), rfl⟩, ?_⟩
          refine Call_wp (lv := [some (vr 4109)]) (by decide) ckJ0_coder_7d493 [] rfl rfl ?_
          refine ⟨fun c => absurd c (show (¬ ((1 : Int) = 0)) from by decide), fun _ => ?_⟩
          refine ⟨3, (by decide), rfl, ?_⟩
          refine ⟨rfl, (by decide), ?_⟩
          refine ⟨rfl, ?_⟩
          refine ⟨fun c => absurd c (show (¬ ((4 : Int) ≤ 3)) from by decide), fun _ => ?_⟩
          refine ⟨_, rfl, (by decide), ?_⟩
          refine ⟨⟨_, rfl, (by decide)⟩, ?_⟩
          have n31 : (wr ((I 218 2) + 3)) = (I 218 2) + 3 := wr_id (show -2147483648 ≤ ((I 218 2) + 3 : Int) ∧ ((I 218 2) + 3 : Int) < 2147483648 from by omega)
          have z32 := TXT_z ht (wr ((I 218 2) + 3))
          have z33 : tt (wr ((I 218 2) + 3)) = tt ((I 218 2) + 3) := congrArg tt (by omega)
          refine c_byteAt9 (v0 := (wr ((I 218 2) + 3))) hF hR hx (hl) ht (fun vr34 hr35 q36 q37 => ?_)
          have hr35 : -2147483648 ≤ vr34 ∧ vr34 < 2147483648 := hr35
          have q36 : 32 ≤ vr34 ∧ vr34 ≤ 122 → tt ((wr ((I 218 2) + 3)) : Int) = vr34 := q36
          have q37 : ¬ (32 ≤ vr34 ∧ vr34 ≤ 122) → tt ((wr ((I 218 2) + 3)) : Int) = 0 := q37
          refine ⟨⟨3, (by decide), rfl⟩, ?_⟩
          refine Call_wp (lv := [some (vr 4109), some (vi 3)]) (by decide) ckJ0_charAt_5068e [] rfl rfl ?_
          refine ⟨⟨3, (by decide), rfl⟩, ?_⟩
          refine Call_wp (lv := [some (vr 4109)]) (by decide) ckJ0_isLatin1_aae02 [] rfl rfl ?_
          refine ⟨fun c => absurd c (show (¬ ((1 : Int) = 0)) from by decide), fun _ => ?_⟩
          refine ⟨3, (by decide), rfl, ?_⟩
          refine ⟨fun c => absurd (show ((0 : Int) = 0) from by decide) c, fun _ => ?_⟩
          refine ⟨rfl, (by decide), ?_⟩
          refine ⟨fun c => absurd c (show (¬ ((1 : Int) = 0)) from by decide), fun _ => ?_⟩
          refine ⟨3, (by decide), rfl, ?_⟩
          refine Call_wp (lv := [some (vr 4139), some (vi 3)]) (by decide) ckJ1_charAt_3b067 [] rfl rfl ?_
          refine Or.inr (Or.inr ⟨3, (by decide), rfl, ?_⟩)
          refine j_check (i := 3) (n := 4) (by omega) ?_
          refine ⟨3, (by decide), rfl, (by decide), (by decide), ?_⟩
          refine ⟨rfl, (by decide), ?_⟩
          refine ⟨rfl, (by decide), ?_⟩
          refine ⟨fun (c38 : ((vr34 : Int) = 100)) => ?_, fun (c38 : (¬ ((vr34 : Int) = 100))) => ?_⟩
          ·
            replace q36 : tt (wr ((I 218 2) + 3)) = 100 := by omega
            clear q37 z32
            refine ⟨⟨3, (by decide), rfl⟩, ?_⟩
            refine Call_wp (lv := [some (vr 4109)]) (by decide) ckJ0_length_8abf5 [] rfl rfl ?_
            refine ⟨3, (by decide), rfl, ?_⟩
            refine Or.inr (Or.inr ⟨3, (by decide), rfl, ?_⟩)
            refine ⟨⟨3, (by decide), rfl⟩, ?_⟩
            refine Call_wp (lv := [some (vr 4109)]) (by decide) ckJ0_coder_7d493 [] rfl rfl ?_
            refine ⟨fun c => absurd c (show (¬ ((1 : Int) = 0)) from by decide), fun _ => ?_⟩
            refine ⟨3, (by decide), rfl, ?_⟩
            refine ⟨rfl, (by decide), ?_⟩
            refine ⟨rfl, ?_⟩
            refine ⟨fun _ => ?_, fun c => absurd (show ((4 : Int) ≤ 4) from by decide) c⟩
            exact ⟨rfl, (by decide), fun hv hA' => hQ _ (hv _ rfl) (show 0 ≤ 1 ∧ 1 ≤ 1 from by decide) (show 1 = 1 → ((I 218 3) - (I 218 2) = 4 ∧ tt (I 218 2) = 104 ∧ tt ((I 218 2) + 1) = 111 ∧ tt ((I 218 2) + 2) = 108 ∧ tt ((I 218 2) + 3) = 100) from by first | omega | (simp only [wr, wl] at *; omega)) (show 1 = 0 → ¬ ((I 218 3) - (I 218 2) = 4 ∧ tt (I 218 2) = 104 ∧ tt ((I 218 2) + 1) = 111 ∧ tt ((I 218 2) + 2) = 108 ∧ tt ((I 218 2) + 3) = 100) from fun z => absurd z (by decide))⟩
          ·
            replace q36 : ¬ tt (wr ((I 218 2) + 3)) = 100 := by omega
            clear q37 z32
            exact ⟨rfl, (by decide), fun hv hA' => hQ _ (hv _ rfl) (show 0 ≤ 0 ∧ 0 ≤ 1 from by decide) (show 0 = 1 → ((I 218 3) - (I 218 2) = 4 ∧ tt (I 218 2) = 104 ∧ tt ((I 218 2) + 1) = 111 ∧ tt ((I 218 2) + 2) = 108 ∧ tt ((I 218 2) + 3) = 100) from fun z => absurd z (by decide)) (show 0 = 0 → ¬ ((I 218 3) - (I 218 2) = 4 ∧ tt (I 218 2) = 104 ∧ tt ((I 218 2) + 1) = 111 ∧ tt ((I 218 2) + 2) = 108 ∧ tt ((I 218 2) + 3) = 100) from by first | omega | (simp only [wr, wl] at *; omega))⟩
        ·
          replace q28 : ¬ tt (wr ((I 218 2) + 2)) = 108 := by omega
          clear q29 z24
          exact ⟨rfl, (by decide), fun hv hA' => hQ _ (hv _ rfl) (show 0 ≤ 0 ∧ 0 ≤ 1 from by decide) (show 0 = 1 → ((I 218 3) - (I 218 2) = 4 ∧ tt (I 218 2) = 104 ∧ tt ((I 218 2) + 1) = 111 ∧ tt ((I 218 2) + 2) = 108 ∧ tt ((I 218 2) + 3) = 100) from fun z => absurd z (by decide)) (show 0 = 0 → ¬ ((I 218 3) - (I 218 2) = 4 ∧ tt (I 218 2) = 104 ∧ tt ((I 218 2) + 1) = 111 ∧ tt ((I 218 2) + 2) = 108 ∧ tt ((I 218 2) + 3) = 100) from by first | omega | (simp only [wr, wl] at *; omega))⟩
      ·
        replace q20 : ¬ tt (wr ((I 218 2) + 1)) = 111 := by omega
        clear q21 z16
        exact ⟨rfl, (by decide), fun hv hA' => hQ _ (hv _ rfl) (show 0 ≤ 0 ∧ 0 ≤ 1 from by decide) (show 0 = 1 → ((I 218 3) - (I 218 2) = 4 ∧ tt (I 218 2) = 104 ∧ tt ((I 218 2) + 1) = 111 ∧ tt ((I 218 2) + 2) = 108 ∧ tt ((I 218 2) + 3) = 100) from fun z => absurd z (by decide)) (show 0 = 0 → ¬ ((I 218 3) - (I 218 2) = 4 ∧ tt (I 218 2) = 104 ∧ tt ((I 218 2) + 1) = 111 ∧ tt ((I 218 2) + 2) = 108 ∧ tt ((I 218 2) + 3) = 100) from by first | omega | (simp only [wr, wl] at *; omega))⟩
    ·
      replace q12 : ¬ tt (wr ((I 218 2) + 0)) = 104 := by omega
      clear q13 z8
      exact ⟨rfl, (by decide), fun hv hA' => hQ _ (hv _ rfl) (show 0 ≤ 0 ∧ 0 ≤ 1 from by decide) (show 0 = 1 → ((I 218 3) - (I 218 2) = 4 ∧ tt (I 218 2) = 104 ∧ tt ((I 218 2) + 1) = 111 ∧ tt ((I 218 2) + 2) = 108 ∧ tt ((I 218 2) + 3) = 100) from fun z => absurd z (by decide)) (show 0 = 0 → ¬ ((I 218 3) - (I 218 2) = 4 ∧ tt (I 218 2) = 104 ∧ tt ((I 218 2) + 1) = 111 ∧ tt ((I 218 2) + 2) = 108 ∧ tt ((I 218 2) + 3) = 100) from by first | omega | (simp only [wr, wl] at *; omega))⟩
  ·
    exact ⟨rfl, (by decide), fun hv hA' => hQ _ (hv _ rfl) (show 0 ≤ 0 ∧ 0 ≤ 1 from by decide) (show 0 = 1 → ((I 218 3) - (I 218 2) = 4 ∧ tt (I 218 2) = 104 ∧ tt ((I 218 2) + 1) = 111 ∧ tt ((I 218 2) + 2) = 108 ∧ tt ((I 218 2) + 3) = 100) from fun z => absurd z (by decide)) (show 0 = 0 → ¬ ((I 218 3) - (I 218 2) = 4 ∧ tt (I 218 2) = 104 ∧ tt ((I 218 2) + 1) = 111 ∧ tt ((I 218 2) + 2) = 108 ∧ tt ((I 218 2) + 3) = 100) from by first | omega | (simp only [wr, wl] at *; omega))⟩
theorem c_mk9_3 (hF : FS F) (hR : Rg I) (hx : F 218 0 = some 5) {tt : Int → Int} {nn : Int} (hl : I 218 1 = nn) (ht : TXT tt nn (I 5)) (hb : 0 ≤ I 218 2 ∧ I 218 2 ≤ I 218 3 ∧ I 218 3 ≤ nn) (h1 : mkW3 tt (I 218 2) (I 218 3) → I 218 3 - I 218 2 = 4 → Q (some (vi 1)) F I) (h0 : ¬ mkW3 tt (I 218 2) (I 218 3) → Q (some (vi 0)) F I) : CallN G (d + 4) kX9_isMark [vr 218, vr 4109] NP F I Q := by
  refine c_mark9_3 hF hR hx hl ht hb (fun r _ hr q1 q0 => ?_)
  by_cases e : r = 1
  · rw [e]; exact h1 (q1 e) (q1 e).1
  · have e0 : r = 0 := by omega
    rw [e0]; exact h0 (q0 e0)
theorem c_mark9_4 (hF : FS F) (hR : Rg I) (hx : F 218 0 = some 5) {tt : Int → Int} {nn : Int} (hl : I 218 1 = nn) (ht : TXT tt nn (I 5)) (hb : 0 ≤ I 218 2 ∧ I 218 2 ≤ I 218 3 ∧ I 218 3 ≤ nn) (hQ : ∀ r : Int, iR r → (0 ≤ r ∧ r ≤ 1) → (r = 1 → ((I 218 3) - (I 218 2) = 4 ∧ tt (I 218 2) = 98 ∧ tt ((I 218 2) + 1) = 97 ∧ tt ((I 218 2) + 2) = 99 ∧ tt ((I 218 2) + 3) = 107)) → (r = 0 → ¬ ((I 218 3) - (I 218 2) = 4 ∧ tt (I 218 2) = 98 ∧ tt ((I 218 2) + 1) = 97 ∧ tt ((I 218 2) + 2) = 99 ∧ tt ((I 218 2) + 3) = 107)) → Q (some (vi r)) F I) : CallN G (d + 4) kX9_isMark [vr 218, vr 4110] NP F I Q := by
  refine CallN_in (fun hok hA => CallN_out ?_)
  have hn2 := ht.1
  refine Call_wp (lv := [some (vr 218), some (vr 4110), none]) (by decide) ckX9_isMark [] rfl rfl ?_
  refine ⟨_, rfl, (by decide), ?_⟩
  have r1 : 0 ≤ (I 218 3) ∧ (I 218 3) ≤ 64 := (by omega)
  refine ⟨_, rfl, (by decide), ?_⟩
  have r2 : 0 ≤ (I 218 2) ∧ (I 218 2) ≤ 64 := (by omega)
  refine ⟨⟨4, (by decide), rfl⟩, ?_⟩
  refine Call_wp (lv := [some (vr 4110)]) (by decide) ckJ0_length_8abf5 [] rfl rfl ?_
  refine ⟨4, (by decide), rfl, ?_⟩
  refine Or.inr (Or.inr ⟨4, (by decide), rfl, ?_⟩)
  refine ⟨⟨4, (by decide), rfl⟩, ?_⟩
  refine Call_wp (lv := [some (vr 4110)]) (by decide) ckJ0_coder_7d493 [] rfl rfl ?_
  refine ⟨fun c => absurd c (show (¬ ((1 : Int) = 0)) from by decide), fun _ => ?_⟩
  refine ⟨4, (by decide), rfl, ?_⟩
  refine ⟨rfl, (by decide), ?_⟩
  refine ⟨rfl, ?_⟩
  have n5 : (wr ((I 218 3) - (I 218 2))) = (I 218 3) - (I 218 2) := wr_id (show -2147483648 ≤ ((I 218 3) - (I 218 2) : Int) ∧ ((I 218 3) - (I 218 2) : Int) < 2147483648 from by omega)
  refine ⟨fun (c6 : (((wr ((I 218 3) - (I 218 2))) : Int) = 4)) => ?_, fun (c6 : (¬ (((wr ((I 218 3) - (I 218 2))) : Int) = 4))) => ?_⟩
  ·
    refine ⟨⟨4, (by decide), rfl⟩, ?_⟩
    refine Call_wp (lv := [some (vr 4110)]) (by decide) ckJ0_length_8abf5 [] rfl rfl ?_
    refine ⟨4, (by decide), rfl, ?_⟩
    refine Or.inr (Or.inr ⟨4, (by decide), rfl, ?_⟩)
    refine ⟨⟨4, (by decide), rfl⟩, ?_⟩
    refine Call_wp (lv := [some (vr 4110)]) (by decide) ckJ0_coder_7d493 [] rfl rfl ?_
    refine ⟨fun c => absurd c (show (¬ ((1 : Int) = 0)) from by decide), fun _ => ?_⟩
    refine ⟨4, (by decide), rfl, ?_⟩
    refine ⟨rfl, (by decide), ?_⟩
    refine ⟨rfl, ?_⟩
    refine ⟨fun c => absurd c (show (¬ ((4 : Int) ≤ 0)) from by decide), fun _ => ?_⟩
    refine ⟨_, rfl, (by decide), ?_⟩
    refine ⟨⟨_, rfl, (by decide)⟩, ?_⟩
    have n7 : (wr ((I 218 2) + 0)) = (I 218 2) + 0 := wr_id (show -2147483648 ≤ ((I 218 2) + 0 : Int) ∧ ((I 218 2) + 0 : Int) < 2147483648 from by omega)
    have z8 := TXT_z ht (wr ((I 218 2) + 0))
    have z9 : tt (wr ((I 218 2) + 0)) = tt ((I 218 2)) := congrArg tt (by omega)
    refine c_byteAt9 (v0 := (wr ((I 218 2) + 0))) hF hR hx (hl) ht (fun vr10 hr11 q12 q13 => ?_)
    have hr11 : -2147483648 ≤ vr10 ∧ vr10 < 2147483648 := hr11
    have q12 : 32 ≤ vr10 ∧ vr10 ≤ 122 → tt ((wr ((I 218 2) + 0)) : Int) = vr10 := q12
    have q13 : ¬ (32 ≤ vr10 ∧ vr10 ≤ 122) → tt ((wr ((I 218 2) + 0)) : Int) = 0 := q13
    refine ⟨⟨4, (by decide), rfl⟩, ?_⟩
    refine Call_wp (lv := [some (vr 4110), some (vi 0)]) (by decide) ckJ0_charAt_5068e [] rfl rfl ?_
    refine ⟨⟨4, (by decide), rfl⟩, ?_⟩
    refine Call_wp (lv := [some (vr 4110)]) (by decide) ckJ0_isLatin1_aae02 [] rfl rfl ?_
    refine ⟨fun c => absurd c (show (¬ ((1 : Int) = 0)) from by decide), fun _ => ?_⟩
    refine ⟨4, (by decide), rfl, ?_⟩
    refine ⟨fun c => absurd (show ((0 : Int) = 0) from by decide) c, fun _ => ?_⟩
    refine ⟨rfl, (by decide), ?_⟩
    refine ⟨fun c => absurd c (show (¬ ((1 : Int) = 0)) from by decide), fun _ => ?_⟩
    refine ⟨4, (by decide), rfl, ?_⟩
    refine Call_wp (lv := [some (vr 4140), some (vi 0)]) (by decide) ckJ1_charAt_3b067 [] rfl rfl ?_
    refine Or.inr (Or.inr ⟨4, (by decide), rfl, ?_⟩)
    refine j_check (i := 0) (n := 4) (by omega) ?_
    refine ⟨4, (by decide), rfl, (by decide), (by decide), ?_⟩
    refine ⟨rfl, (by decide), ?_⟩
    refine ⟨rfl, (by decide), ?_⟩
    refine ⟨fun (c14 : ((vr10 : Int) = 98)) => ?_, fun (c14 : (¬ ((vr10 : Int) = 98))) => ?_⟩
    ·
      replace q12 : tt (wr ((I 218 2) + 0)) = 98 := by omega
      clear q13 z8
      refine ⟨⟨4, (by decide), rfl⟩, ?_⟩
      refine Call_wp (lv := [some (vr 4110)]) (by decide) ckJ0_length_8abf5 [] rfl rfl ?_
      refine ⟨4, (by decide), rfl, ?_⟩
      refine Or.inr (Or.inr ⟨4, (by decide), rfl, ?_⟩)
      refine ⟨⟨4, (by decide), rfl⟩, ?_⟩
      refine Call_wp (lv := [some (vr 4110)]) (by decide) ckJ0_coder_7d493 [] rfl rfl ?_
      refine ⟨fun c => absurd c (show (¬ ((1 : Int) = 0)) from by decide), fun _ => ?_⟩
      refine ⟨4, (by decide), rfl, ?_⟩
      refine ⟨rfl, (by decide), ?_⟩
      refine ⟨rfl, ?_⟩
      refine ⟨fun c => absurd c (show (¬ ((4 : Int) ≤ 1)) from by decide), fun _ => ?_⟩
      refine ⟨_, rfl, (by decide), ?_⟩
      refine ⟨⟨_, rfl, (by decide)⟩, ?_⟩
      have n15 : (wr ((I 218 2) + 1)) = (I 218 2) + 1 := wr_id (show -2147483648 ≤ ((I 218 2) + 1 : Int) ∧ ((I 218 2) + 1 : Int) < 2147483648 from by omega)
      have z16 := TXT_z ht (wr ((I 218 2) + 1))
      have z17 : tt (wr ((I 218 2) + 1)) = tt ((I 218 2) + 1) := congrArg tt (by omega)
      refine c_byteAt9 (v0 := (wr ((I 218 2) + 1))) hF hR hx (hl) ht (fun vr18 hr19 q20 q21 => ?_)
      have hr19 : -2147483648 ≤ vr18 ∧ vr18 < 2147483648 := hr19
      have q20 : 32 ≤ vr18 ∧ vr18 ≤ 122 → tt ((wr ((I 218 2) + 1)) : Int) = vr18 := q20
      have q21 : ¬ (32 ≤ vr18 ∧ vr18 ≤ 122) → tt ((wr ((I 218 2) + 1)) : Int) = 0 := q21
      refine ⟨⟨4, (by decide), rfl⟩, ?_⟩
      refine Call_wp (lv := [some (vr 4110), some (vi 1)]) (by decide) ckJ0_charAt_5068e [] rfl rfl ?_
      refine ⟨⟨4, (by decide), rfl⟩, ?_⟩
      refine Call_wp (lv := [some (vr 4110)]) (by decide) ckJ0_isLatin1_aae02 [] rfl rfl ?_
      refine ⟨fun c => absurd c (show (¬ ((1 : Int) = 0)) from by decide), fun _ => ?_⟩
      refine ⟨4, (by decide), rfl, ?_⟩
      refine ⟨fun c => absurd (show ((0 : Int) = 0) from by decide) c, fun _ => ?_⟩
      refine ⟨rfl, (by decide), ?_⟩
      refine ⟨fun c => absurd c (show (¬ ((1 : Int) = 0)) from by decide), fun _ => ?_⟩
      refine ⟨4, (by decide), rfl, ?_⟩
      refine Call_wp (lv := [some (vr 4140), some (vi 1)]) (by decide) ckJ1_charAt_3b067 [] rfl rfl ?_
      refine Or.inr (Or.inr ⟨4, (by decide), rfl, ?_⟩)
      refine j_check (i := 1) (n := 4) (by omega) ?_
      refine ⟨4, (by decide), rfl, (by decide), (by decide), ?_⟩
      refine ⟨rfl, (by decide), ?_⟩
      refine ⟨rfl, (by decide), ?_⟩
      refine ⟨fun (c22 : ((vr18 : Int) = 97)) => ?_, fun (c22 : (¬ ((vr18 : Int) = 97))) => ?_⟩
      ·
        replace q20 : tt (wr ((I 218 2) + 1)) = 97 := by omega
        clear q21 z16
        refine ⟨⟨4, (by decide), rfl⟩, ?_⟩
        refine Call_wp (lv := [some (vr 4110)]) (by decide) ckJ0_length_8abf5 [] rfl rfl ?_
        refine ⟨4, (by decide), rfl, ?_⟩
        refine Or.inr (Or.inr ⟨4, (by decide), rfl, ?_⟩)
        refine ⟨⟨4, (by decide), rfl⟩, ?_⟩
        refine Call_wp (lv := [some (vr 4110)]) (by decide) ckJ0_coder_7d493 [] rfl rfl ?_
        refine ⟨fun c => absurd c (show (¬ ((1 : Int) = 0)) from by decide), fun _ => ?_⟩
        refine ⟨4, (by decide), rfl, ?_⟩
        refine ⟨rfl, (by decide), ?_⟩
        refine ⟨rfl, ?_⟩
        refine ⟨fun c => absurd c (show (¬ ((4 : Int) ≤ 2)) from by decide), fun _ => ?_⟩
        refine ⟨_, rfl, (by decide), ?_⟩
        refine ⟨⟨_, rfl, (by decide)⟩, ?_⟩
        have n23 : (wr ((I 218 2) + 2)) = (I 218 2) + 2 := wr_id (show -2147483648 ≤ ((I 218 2) + 2 : Int) ∧ ((I 218 2) + 2 : Int) < 2147483648 from by omega)
        have z24 := TXT_z ht (wr ((I 218 2) + 2))
        have z25 : tt (wr ((I 218 2) + 2)) = tt ((I 218 2) + 2) := congrArg tt (by omega)
        refine c_byteAt9 (v0 := (wr ((I 218 2) + 2))) hF hR hx (hl) ht (fun vr26 hr27 q28 q29 => ?_)
        have hr27 : -2147483648 ≤ vr26 ∧ vr26 < 2147483648 := hr27
        have q28 : 32 ≤ vr26 ∧ vr26 ≤ 122 → tt ((wr ((I 218 2) + 2)) : Int) = vr26 := q28
        have q29 : ¬ (32 ≤ vr26 ∧ vr26 ≤ 122) → tt ((wr ((I 218 2) + 2)) : Int) = 0 := q29
        refine ⟨⟨4, (by decide), rfl⟩, ?_⟩
        refine Call_wp (lv := [some (vr 4110), some (vi 2)]) (by decide) ckJ0_charAt_5068e [] rfl rfl ?_
        refine ⟨⟨4, (by decide), rfl⟩, ?_⟩
        refine Call_wp (lv := [some (vr 4110)]) (by decide) ckJ0_isLatin1_aae02 [] rfl rfl ?_
        refine ⟨fun c => absurd c (show (¬ ((1 : Int) = 0)) from by decide), fun _ => ?_⟩
        refine ⟨4, (by decide), rfl, ?_⟩
        refine ⟨fun c => absurd (show ((0 : Int) = 0) from by decide) c, fun _ => ?_⟩
        refine ⟨rfl, (by decide), ?_⟩
        refine ⟨fun c => absurd c (show (¬ ((1 : Int) = 0)) from by decide), fun _ => ?_⟩
        refine ⟨4, (by decide), rfl, ?_⟩
        refine Call_wp (lv := [some (vr 4140), some (vi 2)]) (by decide) ckJ1_charAt_3b067 [] rfl rfl ?_
        refine Or.inr (Or.inr ⟨4, (by decide), rfl, ?_⟩)
        refine j_check (i := 2) (n := 4) (by omega) ?_
        refine ⟨4, (by decide), rfl, (by decide), (by decide), ?_⟩
        refine ⟨rfl, (by decide), ?_⟩
        refine ⟨rfl, (by decide), ?_⟩
        refine ⟨fun (c30 : ((vr26 : Int) = 99)) => ?_, fun (c30 : (¬ ((vr26 : Int) = 99))) => ?_⟩
        ·
          replace q28 : tt (wr ((I 218 2) + 2)) = 99 := by omega
          clear q29 z24
          refine ⟨⟨4, (by decide), rfl⟩, ?_⟩
          refine Call_wp (lv := [some (vr 4110)]) (by decide) ckJ0_length_8abf5 [] rfl rfl ?_
          refine ⟨4, (by decide), rfl, ?_⟩
          refine Or.inr (Or.inr ⟨4, (by decide), rfl, ?_⟩)
          refine ⟨⟨4, (by decide), rfl⟩, ?_⟩
          refine Call_wp (lv := [some (vr 4110)]) (by decide) ckJ0_coder_7d493 [] rfl rfl ?_
          refine ⟨fun c => absurd c (show (¬ ((1 : Int) = 0)) from by decide), fun _ => ?_⟩
          refine ⟨4, (by decide), rfl, ?_⟩
          refine ⟨rfl, (by decide), ?_⟩
          refine ⟨rfl, ?_⟩
          refine ⟨fun c => absurd c (show (¬ ((4 : Int) ≤ 3)) from by decide), fun _ => ?_⟩
          refine ⟨_, rfl, (by decide), ?_⟩
          refine ⟨⟨_, rfl, (by decide)⟩, ?_⟩
          have n31 : (wr ((I 218 2) + 3)) = (I 218 2) + 3 := wr_id (show -2147483648 ≤ ((I 218 2) + 3 : Int) ∧ ((I 218 2) + 3 : Int) < 2147483648 from by omega)
          have z32 := TXT_z ht (wr ((I 218 2) + 3))
          have z33 : tt (wr ((I 218 2) + 3)) = tt ((I 218 2) + 3) := congrArg tt (by omega)
          refine c_byteAt9 (v0 := (wr ((I 218 2) + 3))) hF hR hx (hl) ht (fun vr34 hr35 q36 q37 => ?_)
          have hr35 : -2147483648 ≤ vr34 ∧ vr34 < 2147483648 := hr35
          have q36 : 32 ≤ vr34 ∧ vr34 ≤ 122 → tt ((wr ((I 218 2) + 3)) : Int) = vr34 := q36
          have q37 : ¬ (32 ≤ vr34 ∧ vr34 ≤ 122) → tt ((wr ((I 218 2) + 3)) : Int) = 0 := q37
          refine ⟨⟨4, (by decide), rfl⟩, ?_⟩
          refine Call_wp (lv := [some (vr 4110), some (vi 3)]) (by decide) ckJ0_charAt_5068e [] rfl rfl ?_
          refine ⟨⟨4, (by decide), rfl⟩, ?_⟩
          refine Call_wp (lv := [some (vr 4110)]) (by decide) ckJ0_isLatin1_aae02 [] rfl rfl ?_
          refine ⟨fun c => absurd c (show (¬ ((1 : Int) = 0)) from by decide), fun _ => ?_⟩
          refine ⟨4, (by decide), rfl, ?_⟩
          refine ⟨fun c => absurd (show ((0 : Int) = 0) from by decide) c, fun _ => ?_⟩
          refine ⟨rfl, (by decide), ?_⟩
          refine ⟨fun c => absurd c (show (¬ ((1 : Int) = 0)) from by decide), fun _ => ?_⟩
          refine ⟨4, (by decide), rfl, ?_⟩
          refine Call_wp (lv := [some (vr 4140), some (vi 3)]) (by decide) ckJ1_charAt_3b067 [] rfl rfl ?_
          refine Or.inr (Or.inr ⟨4, (by decide), rfl, ?_⟩)
          refine j_check (i := 3) (n := 4) (by omega) ?_
          refine ⟨4, (by decide), rfl, (by decide), (by decide), ?_⟩
          refine ⟨rfl, (by decide), ?_⟩
          refine ⟨rfl, (by decide), ?_⟩
          refine ⟨fun (c38 : ((vr34 : Int) = 107)) => ?_, fun (c38 : (¬ ((vr34 : Int) = 107))) => ?_⟩
          ·
            replace q36 : tt (wr ((I 218 2) + 3)) = 107 := by omega
            clear q37 z32
            refine ⟨⟨4, (by decide), rfl⟩, ?_⟩
            refine Call_wp (lv := [some (vr 4110)]) (by decide) ckJ0_length_8abf5 [] rfl rfl ?_
            refine ⟨4, (by decide), rfl, ?_⟩
            refine Or.inr (Or.inr ⟨4, (by decide), rfl, ?_⟩)
            refine ⟨⟨4, (by decide), rfl⟩, ?_⟩
            refine Call_wp (lv := [some (vr 4110)]) (by decide) ckJ0_coder_7d493 [] rfl rfl ?_
            refine ⟨fun c => absurd c (show (¬ ((1 : Int) = 0)) from by decide), fun _ => ?_⟩
            refine ⟨4, (by decide), rfl, ?_⟩
            refine ⟨rfl, (by decide), ?_⟩
            refine ⟨rfl, ?_⟩
            refine ⟨fun _ => ?_, fun c => absurd (show ((4 : Int) ≤ 4) from by decide) c⟩
            exact ⟨rfl, (by decide), fun hv hA' => hQ _ (hv _ rfl) (show 0 ≤ 1 ∧ 1 ≤ 1 from by decide) (show 1 = 1 → ((I 218 3) - (I 218 2) = 4 ∧ tt (I 218 2) = 98 ∧ tt ((I 218 2) + 1) = 97 ∧ tt ((I 218 2) + 2) = 99 ∧ tt ((I 218 2) + 3) = 107) from by first | omega | (simp only [wr, wl] at *; omega)) (show 1 = 0 → ¬ ((I 218 3) - (I 218 2) = 4 ∧ tt (I 218 2) = 98 ∧ tt ((I 218 2) + 1) = 97 ∧ tt ((I 218 2) + 2) = 99 ∧ tt ((I 218 2) + 3) = 107) from fun z => absurd z (by decide))⟩
          ·
            replace q36 : ¬ tt (wr ((I 218 2) + 3)) = 107 := by omega
            clear q37 z32
            exact ⟨rfl, (by decide), fun hv hA' => hQ _ (hv _ rfl) (show 0 ≤ 0 ∧ 0 ≤ 1 from by decide) (show 0 = 1 → ((I 218 3) - (I 218 2) = 4 ∧ tt (I 218 2) = 98 ∧ tt ((I 218 2) + 1) = 97 ∧ tt ((I 218 2) + 2) = 99 ∧ tt ((I 218 2) + 3) = 107) from fun z => absurd z (by decide)) (show 0 = 0 → ¬ ((I 218 3) - (I 218 2) = 4 ∧ tt (I 218 2) = 98 ∧ tt ((I 218 2) + 1) = 97 ∧ tt ((I 218 2) + 2) = 99 ∧ tt ((I 218 2) + 3) = 107) from by first | omega | (simp only [wr, wl] at *; omega))⟩
        ·
          replace q28 : ¬ tt (wr ((I 218 2) + 2)) = 99 := by omega
          clear q29 z24
          exact ⟨rfl, (by decide), fun hv hA' => hQ _ (hv _ rfl) (show 0 ≤ 0 ∧ 0 ≤ 1 from by decide) (show 0 = 1 → ((I 218 3) - (I 218 2) = 4 ∧ tt (I 218 2) = 98 ∧ tt ((I 218 2) + 1) = 97 ∧ tt ((I 218 2) + 2) = 99 ∧ tt ((I 218 2) + 3) = 107) from fun z => absurd z (by decide)) (show 0 = 0 → ¬ ((I 218 3) - (I 218 2) = 4 ∧ tt (I 218 2) = 98 ∧ tt ((I 218 2) + 1) = 97 ∧ tt ((I 218 2) + 2) = 99 ∧ tt ((I 218 2) + 3) = 107) from by first | omega | (simp only [wr, wl] at *; omega))⟩
      ·
        replace q20 : ¬ tt (wr ((I 218 2) + 1)) = 97 := by omega
        clear q21 z16
        exact ⟨rfl, (by decide), fun hv hA' => hQ _ (hv _ rfl) (show 0 ≤ 0 ∧ 0 ≤ 1 from by decide) (show 0 = 1 → ((I 218 3) - (I 218 2) = 4 ∧ tt (I 218 2) = 98 ∧ tt ((I 218 2) + 1) = 97 ∧ tt ((I 218 2) + 2) = 99 ∧ tt ((I 218 2) + 3) = 107) from fun z => absurd z (by decide)) (show 0 = 0 → ¬ ((I 218 3) - (I 218 2) = 4 ∧ tt (I 218 2) = 98 ∧ tt ((I 218 2) + 1) = 97 ∧ tt ((I 218 2) + 2) = 99 ∧ tt ((I 218 2) + 3) = 107) from by first | omega | (simp only [wr, wl] at *; omega))⟩
    ·
      replace q12 : ¬ tt (wr ((I 218 2) + 0)) = 98 := by omega
      clear q13 z8
      exact ⟨rfl, (by decide), fun hv hA' => hQ _ (hv _ rfl) (show 0 ≤ 0 ∧ 0 ≤ 1 from by decide) (show 0 = 1 → ((I 218 3) - (I 218 2) = 4 ∧ tt (I 218 2) = 98 ∧ tt ((I 218 2) + 1) = 97 ∧ tt ((I 218 2) + 2) = 99 ∧ tt ((I 218 2) + 3) = 107) from fun z => absurd z (by decide)) (show 0 = 0 → ¬ ((I 218 3) - (I 218 2) = 4 ∧ tt (I 218 2) = 98 ∧ tt ((I 218 2) + 1) = 97 ∧ tt ((I 218 2) + 2) = 99 ∧ tt ((I 218 2) + 3) = 107) from by first | omega | (simp only [wr, wl] at *; omega))⟩
  ·
    exact ⟨rfl, (by decide), fun hv hA' => hQ _ (hv _ rfl) (show 0 ≤ 0 ∧ 0 ≤ 1 from by decide) (show 0 = 1 → ((I 218 3) - (I 218 2) = 4 ∧ tt (I 218 2) = 98 ∧ tt ((I 218 2) + 1) = 97 ∧ tt ((I 218 2) + 2) = 99 ∧ tt ((I 218 2) + 3) = 107) from fun z => absurd z (by decide)) (show 0 = 0 → ¬ ((I 218 3) - (I 218 2) = 4 ∧ tt (I 218 2) = 98 ∧ tt ((I 218 2) + 1) = 97 ∧ tt ((I 218 2) + 2) = 99 ∧ tt ((I 218 2) + 3) = 107) from by first | omega | (simp only [wr, wl] at *; omega))⟩
theorem c_mk9_4 (hF : FS F) (hR : Rg I) (hx : F 218 0 = some 5) {tt : Int → Int} {nn : Int} (hl : I 218 1 = nn) (ht : TXT tt nn (I 5)) (hb : 0 ≤ I 218 2 ∧ I 218 2 ≤ I 218 3 ∧ I 218 3 ≤ nn) (h1 : mkW4 tt (I 218 2) (I 218 3) → I 218 3 - I 218 2 = 4 → Q (some (vi 1)) F I) (h0 : ¬ mkW4 tt (I 218 2) (I 218 3) → Q (some (vi 0)) F I) : CallN G (d + 4) kX9_isMark [vr 218, vr 4110] NP F I Q := by
  refine c_mark9_4 hF hR hx hl ht hb (fun r _ hr q1 q0 => ?_)
  by_cases e : r = 1
  · rw [e]; exact h1 (q1 e) (q1 e).1
  · have e0 : r = 0 := by omega
    rw [e0]; exact h0 (q0 e0)
theorem c_mark9_5 (hF : FS F) (hR : Rg I) (hx : F 218 0 = some 5) {tt : Int → Int} {nn : Int} (hl : I 218 1 = nn) (ht : TXT tt nn (I 5)) (hb : 0 ≤ I 218 2 ∧ I 218 2 ≤ I 218 3 ∧ I 218 3 ≤ nn) (hQ : ∀ r : Int, iR r → (0 ≤ r ∧ r ≤ 1) → (r = 1 → ((I 218 3) - (I 218 2) = 4 ∧ tt (I 218 2) = 114 ∧ tt ((I 218 2) + 1) = 101 ∧ tt ((I 218 2) + 2) = 97 ∧ tt ((I 218 2) + 3) = 100)) → (r = 0 → ¬ ((I 218 3) - (I 218 2) = 4 ∧ tt (I 218 2) = 114 ∧ tt ((I 218 2) + 1) = 101 ∧ tt ((I 218 2) + 2) = 97 ∧ tt ((I 218 2) + 3) = 100)) → Q (some (vi r)) F I) : CallN G (d + 4) kX9_isMark [vr 218, vr 4111] NP F I Q := by
  refine CallN_in (fun hok hA => CallN_out ?_)
  have hn2 := ht.1
  refine Call_wp (lv := [some (vr 218), some (vr 4111), none]) (by decide) ckX9_isMark [] rfl rfl ?_
  refine ⟨_, rfl, (by decide), ?_⟩
  have r1 : 0 ≤ (I 218 3) ∧ (I 218 3) ≤ 64 := (by omega)
  refine ⟨_, rfl, (by decide), ?_⟩
  have r2 : 0 ≤ (I 218 2) ∧ (I 218 2) ≤ 64 := (by omega)
  refine ⟨⟨5, (by decide), rfl⟩, ?_⟩
  refine Call_wp (lv := [some (vr 4111)]) (by decide) ckJ0_length_8abf5 [] rfl rfl ?_
  refine ⟨5, (by decide), rfl, ?_⟩
  refine Or.inr (Or.inr ⟨5, (by decide), rfl, ?_⟩)
  refine ⟨⟨5, (by decide), rfl⟩, ?_⟩
  refine Call_wp (lv := [some (vr 4111)]) (by decide) ckJ0_coder_7d493 [] rfl rfl ?_
  refine ⟨fun c => absurd c (show (¬ ((1 : Int) = 0)) from by decide), fun _ => ?_⟩
  refine ⟨5, (by decide), rfl, ?_⟩
  refine ⟨rfl, (by decide), ?_⟩
  refine ⟨rfl, ?_⟩
  have n5 : (wr ((I 218 3) - (I 218 2))) = (I 218 3) - (I 218 2) := wr_id (show -2147483648 ≤ ((I 218 3) - (I 218 2) : Int) ∧ ((I 218 3) - (I 218 2) : Int) < 2147483648 from by omega)
  refine ⟨fun (c6 : (((wr ((I 218 3) - (I 218 2))) : Int) = 4)) => ?_, fun (c6 : (¬ (((wr ((I 218 3) - (I 218 2))) : Int) = 4))) => ?_⟩
  ·
    refine ⟨⟨5, (by decide), rfl⟩, ?_⟩
    refine Call_wp (lv := [some (vr 4111)]) (by decide) ckJ0_length_8abf5 [] rfl rfl ?_
    refine ⟨5, (by decide), rfl, ?_⟩
    refine Or.inr (Or.inr ⟨5, (by decide), rfl, ?_⟩)
    refine ⟨⟨5, (by decide), rfl⟩, ?_⟩
    refine Call_wp (lv := [some (vr 4111)]) (by decide) ckJ0_coder_7d493 [] rfl rfl ?_
    refine ⟨fun c => absurd c (show (¬ ((1 : Int) = 0)) from by decide), fun _ => ?_⟩
    refine ⟨5, (by decide), rfl, ?_⟩
    refine ⟨rfl, (by decide), ?_⟩
    refine ⟨rfl, ?_⟩
    refine ⟨fun c => absurd c (show (¬ ((4 : Int) ≤ 0)) from by decide), fun _ => ?_⟩
    refine ⟨_, rfl, (by decide), ?_⟩
    refine ⟨⟨_, rfl, (by decide)⟩, ?_⟩
    have n7 : (wr ((I 218 2) + 0)) = (I 218 2) + 0 := wr_id (show -2147483648 ≤ ((I 218 2) + 0 : Int) ∧ ((I 218 2) + 0 : Int) < 2147483648 from by omega)
    have z8 := TXT_z ht (wr ((I 218 2) + 0))
    have z9 : tt (wr ((I 218 2) + 0)) = tt ((I 218 2)) := congrArg tt (by omega)
    refine c_byteAt9 (v0 := (wr ((I 218 2) + 0))) hF hR hx (hl) ht (fun vr10 hr11 q12 q13 => ?_)
    have hr11 : -2147483648 ≤ vr10 ∧ vr10 < 2147483648 := hr11
    have q12 : 32 ≤ vr10 ∧ vr10 ≤ 122 → tt ((wr ((I 218 2) + 0)) : Int) = vr10 := q12
    have q13 : ¬ (32 ≤ vr10 ∧ vr10 ≤ 122) → tt ((wr ((I 218 2) + 0)) : Int) = 0 := q13
    refine ⟨⟨5, (by decide), rfl⟩, ?_⟩
    refine Call_wp (lv := [some (vr 4111), some (vi 0)]) (by decide) ckJ0_charAt_5068e [] rfl rfl ?_
    refine ⟨⟨5, (by decide), rfl⟩, ?_⟩
    refine Call_wp (lv := [some (vr 4111)]) (by decide) ckJ0_isLatin1_aae02 [] rfl rfl ?_
    refine ⟨fun c => absurd c (show (¬ ((1 : Int) = 0)) from by decide), fun _ => ?_⟩
    refine ⟨5, (by decide), rfl, ?_⟩
    refine ⟨fun c => absurd (show ((0 : Int) = 0) from by decide) c, fun _ => ?_⟩
    refine ⟨rfl, (by decide), ?_⟩
    refine ⟨fun c => absurd c (show (¬ ((1 : Int) = 0)) from by decide), fun _ => ?_⟩
    refine ⟨5, (by decide), rfl, ?_⟩
    refine Call_wp (lv := [some (vr 4141), some (vi 0)]) (by decide) ckJ1_charAt_3b067 [] rfl rfl ?_
    refine Or.inr (Or.inr ⟨5, (by decide), rfl, ?_⟩)
    refine j_check (i := 0) (n := 4) (by omega) ?_
    refine ⟨5, (by decide), rfl, (by decide), (by decide), ?_⟩
    refine ⟨rfl, (by decide), ?_⟩
    refine ⟨rfl, (by decide), ?_⟩
    refine ⟨fun (c14 : ((vr10 : Int) = 114)) => ?_, fun (c14 : (¬ ((vr10 : Int) = 114))) => ?_⟩
    ·
      replace q12 : tt (wr ((I 218 2) + 0)) = 114 := by omega
      clear q13 z8
      refine ⟨⟨5, (by decide), rfl⟩, ?_⟩
      refine Call_wp (lv := [some (vr 4111)]) (by decide) ckJ0_length_8abf5 [] rfl rfl ?_
      refine ⟨5, (by decide), rfl, ?_⟩
      refine Or.inr (Or.inr ⟨5, (by decide), rfl, ?_⟩)
      refine ⟨⟨5, (by decide), rfl⟩, ?_⟩
      refine Call_wp (lv := [some (vr 4111)]) (by decide) ckJ0_coder_7d493 [] rfl rfl ?_
      refine ⟨fun c => absurd c (show (¬ ((1 : Int) = 0)) from by decide), fun _ => ?_⟩
      refine ⟨5, (by decide), rfl, ?_⟩
      refine ⟨rfl, (by decide), ?_⟩
      refine ⟨rfl, ?_⟩
      refine ⟨fun c => absurd c (show (¬ ((4 : Int) ≤ 1)) from by decide), fun _ => ?_⟩
      refine ⟨_, rfl, (by decide), ?_⟩
      refine ⟨⟨_, rfl, (by decide)⟩, ?_⟩
      have n15 : (wr ((I 218 2) + 1)) = (I 218 2) + 1 := wr_id (show -2147483648 ≤ ((I 218 2) + 1 : Int) ∧ ((I 218 2) + 1 : Int) < 2147483648 from by omega)
      have z16 := TXT_z ht (wr ((I 218 2) + 1))
      have z17 : tt (wr ((I 218 2) + 1)) = tt ((I 218 2) + 1) := congrArg tt (by omega)
      refine c_byteAt9 (v0 := (wr ((I 218 2) + 1))) hF hR hx (hl) ht (fun vr18 hr19 q20 q21 => ?_)
      have hr19 : -2147483648 ≤ vr18 ∧ vr18 < 2147483648 := hr19
      have q20 : 32 ≤ vr18 ∧ vr18 ≤ 122 → tt ((wr ((I 218 2) + 1)) : Int) = vr18 := q20
      have q21 : ¬ (32 ≤ vr18 ∧ vr18 ≤ 122) → tt ((wr ((I 218 2) + 1)) : Int) = 0 := q21
      refine ⟨⟨5, (by decide), rfl⟩, ?_⟩
      refine Call_wp (lv := [some (vr 4111), some (vi 1)]) (by decide) ckJ0_charAt_5068e [] rfl rfl ?_
      refine ⟨⟨5, (by decide), rfl⟩, ?_⟩
      refine Call_wp (lv := [some (vr 4111)]) (by decide) ckJ0_isLatin1_aae02 [] rfl rfl ?_
      refine ⟨fun c => absurd c (show (¬ ((1 : Int) = 0)) from by decide), fun _ => ?_⟩
      refine ⟨5, (by decide), rfl, ?_⟩
      refine ⟨fun c => absurd (show ((0 : Int) = 0) from by decide) c, fun _ => ?_⟩
      refine ⟨rfl, (by decide), ?_⟩
      refine ⟨fun c => absurd c (show (¬ ((1 : Int) = 0)) from by decide), fun _ => ?_⟩
      refine ⟨5, (by decide), rfl, ?_⟩
      refine Call_wp (lv := [some (vr 4141), some (vi 1)]) (by decide) ckJ1_charAt_3b067 [] rfl rfl ?_
      refine Or.inr (Or.inr ⟨5, (by decide), rfl, ?_⟩)
      refine j_check (i := 1) (n := 4) (by omega) ?_
      refine ⟨5, (by decide), rfl, (by decide), (by decide), ?_⟩
      refine ⟨rfl, (by decide), ?_⟩
      refine ⟨rfl, (by decide), ?_⟩
      refine ⟨fun (c22 : ((vr18 : Int) = 101)) => ?_, fun (c22 : (¬ ((vr18 : Int) = 101))) => ?_⟩
      ·
        replace q20 : tt (wr ((I 218 2) + 1)) = 101 := by omega
        clear q21 z16
        refine ⟨⟨5, (by decide), rfl⟩, ?_⟩
        refine Call_wp (lv := [some (vr 4111)]) (by decide) ckJ0_length_8abf5 [] rfl rfl ?_
        refine ⟨5, (by decide), rfl, ?_⟩
        refine Or.inr (Or.inr ⟨5, (by decide), rfl, ?_⟩)
        refine ⟨⟨5, (by decide), rfl⟩, ?_⟩
        refine Call_wp (lv := [some (vr 4111)]) (by decide) ckJ0_coder_7d493 [] rfl rfl ?_
        refine ⟨fun c => absurd c (show (¬ ((1 : Int) = 0)) from by decide), fun _ => ?_⟩
        refine ⟨5, (by decide), rfl, ?_⟩
        refine ⟨rfl, (by decide), ?_⟩
        refine ⟨rfl, ?_⟩
        refine ⟨fun c => absurd c (show (¬ ((4 : Int) ≤ 2)) from by decide), fun _ => ?_⟩
        refine ⟨_, rfl, (by decide), ?_⟩
        refine ⟨⟨_, rfl, (by decide)⟩, ?_⟩
        have n23 : (wr ((I 218 2) + 2)) = (I 218 2) + 2 := wr_id (show -2147483648 ≤ ((I 218 2) + 2 : Int) ∧ ((I 218 2) + 2 : Int) < 2147483648 from by omega)
        have z24 := TXT_z ht (wr ((I 218 2) + 2))
        have z25 : tt (wr ((I 218 2) + 2)) = tt ((I 218 2) + 2) := congrArg tt (by omega)
        refine c_byteAt9 (v0 := (wr ((I 218 2) + 2))) hF hR hx (hl) ht (fun vr26 hr27 q28 q29 => ?_)
        have hr27 : -2147483648 ≤ vr26 ∧ vr26 < 2147483648 := hr27
        have q28 : 32 ≤ vr26 ∧ vr26 ≤ 122 → tt ((wr ((I 218 2) + 2)) : Int) = vr26 := q28
        have q29 : ¬ (32 ≤ vr26 ∧ vr26 ≤ 122) → tt ((wr ((I 218 2) + 2)) : Int) = 0 := q29
        refine ⟨⟨5, (by decide), rfl⟩, ?_⟩
        refine Call_wp (lv := [some (vr 4111), some (vi 2)]) (by decide) ckJ0_charAt_5068e [] rfl rfl ?_
        refine ⟨⟨5, (by decide), rfl⟩, ?_⟩
        refine Call_wp (lv := [some (vr 4111)]) (by decide) ckJ0_isLatin1_aae02 [] rfl rfl ?_
        refine ⟨fun c => absurd c (show (¬ ((1 : Int) = 0)) from by decide), fun _ => ?_⟩
        refine ⟨5, (by decide), rfl, ?_⟩
        refine ⟨fun c => absurd (show ((0 : Int) = 0) from by decide) c, fun _ => ?_⟩
        refine ⟨rfl, (by decide), ?_⟩
        refine ⟨fun c => absurd c (show (¬ ((1 : Int) = 0)) from by decide), fun _ => ?_⟩
        refine ⟨5, (by decide), rfl, ?_⟩
        refine Call_wp (lv := [some (vr 4141), some (vi 2)]) (by decide) ckJ1_charAt_3b067 [] rfl rfl ?_
        refine Or.inr (Or.inr ⟨5, (by decide), rfl, ?_⟩)
        refine j_check (i := 2) (n := 4) (by omega) ?_
        refine ⟨5, (by decide), rfl, (by decide), (by decide), ?_⟩
        refine ⟨rfl, (by decide), ?_⟩
        refine ⟨rfl, (by decide), ?_⟩
        refine ⟨fun (c30 : ((vr26 : Int) = 97)) => ?_, fun (c30 : (¬ ((vr26 : Int) = 97))) => ?_⟩
        ·
          replace q28 : tt (wr ((I 218 2) + 2)) = 97 := by omega
          clear q29 z24
          refine ⟨⟨5, (by decide), rfl⟩, ?_⟩
          refine Call_wp (lv := [some (vr 4111)]) (by decide) ckJ0_length_8abf5 [] rfl rfl ?_
          refine ⟨5, (by decide), rfl, ?_⟩
          refine Or.inr (Or.inr ⟨5, (by decide), rfl, ?_⟩)
          refine ⟨⟨5, (by decide), rfl⟩, ?_⟩
          refine Call_wp (lv := [some (vr 4111)]) (by decide) ckJ0_coder_7d493 [] rfl rfl ?_
          refine ⟨fun c => absurd c (show (¬ ((1 : Int) = 0)) from by decide), fun _ => ?_⟩
          refine ⟨5, (by decide), rfl, ?_⟩
          refine ⟨rfl, (by decide), ?_⟩
          refine ⟨rfl, ?_⟩
          refine ⟨fun c => absurd c (show (¬ ((4 : Int) ≤ 3)) from by decide), fun _ => ?_⟩
          refine ⟨_, rfl, (by decide), ?_⟩
          refine ⟨⟨_, rfl, (by decide)⟩, ?_⟩
          have n31 : (wr ((I 218 2) + 3)) = (I 218 2) + 3 := wr_id (show -2147483648 ≤ ((I 218 2) + 3 : Int) ∧ ((I 218 2) + 3 : Int) < 2147483648 from by omega)
          have z32 := TXT_z ht (wr ((I 218 2) + 3))
          have z33 : tt (wr ((I 218 2) + 3)) = tt ((I 218 2) + 3) := congrArg tt (by omega)
          refine c_byteAt9 (v0 := (wr ((I 218 2) + 3))) hF hR hx (hl) ht (fun vr34 hr35 q36 q37 => ?_)
          have hr35 : -2147483648 ≤ vr34 ∧ vr34 < 2147483648 := hr35
          have q36 : 32 ≤ vr34 ∧ vr34 ≤ 122 → tt ((wr ((I 218 2) + 3)) : Int) = vr34 := q36
          have q37 : ¬ (32 ≤ vr34 ∧ vr34 ≤ 122) → tt ((wr ((I 218 2) + 3)) : Int) = 0 := q37
          refine ⟨⟨5, (by decide), rfl⟩, ?_⟩
          refine Call_wp (lv := [some (vr 4111), some (vi 3)]) (by decide) ckJ0_charAt_5068e [] rfl rfl ?_
          refine ⟨⟨5, (by decide), rfl⟩, ?_⟩
          refine Call_wp (lv := [some (vr 4111)]) (by decide) ckJ0_isLatin1_aae02 [] rfl rfl ?_
          refine ⟨fun c => absurd c (show (¬ ((1 : Int) = 0)) from by decide), fun _ => ?_⟩
          refine ⟨5, (by decide), rfl, ?_⟩
          refine ⟨fun c => absurd (show ((0 : Int) = 0) from by decide) c, fun _ => ?_⟩
          refine ⟨rfl, (by decide), ?_⟩
          refine ⟨fun c => absurd c (show (¬ ((1 : Int) = 0)) from by decide), fun _ => ?_⟩
          refine ⟨5, (by decide), rfl, ?_⟩
          refine Call_wp (lv := [some (vr 4141), some (vi 3)]) (by decide) ckJ1_charAt_3b067 [] rfl rfl ?_
          refine Or.inr (Or.inr ⟨5, (by decide), rfl, ?_⟩)
          refine j_check (i := 3) (n := 4) (by omega) ?_
          refine ⟨5, (by decide), rfl, (by decide), (by decide), ?_⟩
          refine ⟨rfl, (by decide), ?_⟩
          refine ⟨rfl, (by decide), ?_⟩
          refine ⟨fun (c38 : ((vr34 : Int) = 100)) => ?_, fun (c38 : (¬ ((vr34 : Int) = 100))) => ?_⟩
          ·
            replace q36 : tt (wr ((I 218 2) + 3)) = 100 := by omega
            clear q37 z32
            refine ⟨⟨5, (by decide), rfl⟩, ?_⟩
            refine Call_wp (lv := [some (vr 4111)]) (by decide) ckJ0_length_8abf5 [] rfl rfl ?_
            refine ⟨5, (by decide), rfl, ?_⟩
            refine Or.inr (Or.inr ⟨5, (by decide), rfl, ?_⟩)
            refine ⟨⟨5, (by decide), rfl⟩, ?_⟩
            refine Call_wp (lv := [some (vr 4111)]) (by decide) ckJ0_coder_7d493 [] rfl rfl ?_
            refine ⟨fun c => absurd c (show (¬ ((1 : Int) = 0)) from by decide), fun _ => ?_⟩
            refine ⟨5, (by decide), rfl, ?_⟩
            refine ⟨rfl, (by decide), ?_⟩
            refine ⟨rfl, ?_⟩
            refine ⟨fun _ => ?_, fun c => absurd (show ((4 : Int) ≤ 4) from by decide) c⟩
            exact ⟨rfl, (by decide), fun hv hA' => hQ _ (hv _ rfl) (show 0 ≤ 1 ∧ 1 ≤ 1 from by decide) (show 1 = 1 → ((I 218 3) - (I 218 2) = 4 ∧ tt (I 218 2) = 114 ∧ tt ((I 218 2) + 1) = 101 ∧ tt ((I 218 2) + 2) = 97 ∧ tt ((I 218 2) + 3) = 100) from by first | omega | (simp only [wr, wl] at *; omega)) (show 1 = 0 → ¬ ((I 218 3) - (I 218 2) = 4 ∧ tt (I 218 2) = 114 ∧ tt ((I 218 2) + 1) = 101 ∧ tt ((I 218 2) + 2) = 97 ∧ tt ((I 218 2) + 3) = 100) from fun z => absurd z (by decide))⟩
          ·
            replace q36 : ¬ tt (wr ((I 218 2) + 3)) = 100 := by omega
            clear q37 z32
            exact ⟨rfl, (by decide), fun hv hA' => hQ _ (hv _ rfl) (show 0 ≤ 0 ∧ 0 ≤ 1 from by decide) (show 0 = 1 → ((I 218 3) - (I 218 2) = 4 ∧ tt (I 218 2) = 114 ∧ tt ((I 218 2) + 1) = 101 ∧ tt ((I 218 2) + 2) = 97 ∧ tt ((I 218 2) + 3) = 100) from fun z => absurd z (by decide)) (show 0 = 0 → ¬ ((I 218 3) - (I 218 2) = 4 ∧ tt (I 218 2) = 114 ∧ tt ((I 218 2) + 1) = 101 ∧ tt ((I 218 2) + 2) = 97 ∧ tt ((I 218 2) + 3) = 100) from by first | omega | (simp only [wr, wl] at *; omega))⟩
        ·
          replace q28 : ¬ tt (wr ((I 218 2) + 2)) = 97 := by omega
          clear q29 z24
          exact ⟨rfl, (by decide), fun hv hA' => hQ _ (hv _ rfl) (show 0 ≤ 0 ∧ 0 ≤ 1 from by decide) (show 0 = 1 → ((I 218 3) - (I 218 2) = 4 ∧ tt (I 218 2) = 114 ∧ tt ((I 218 2) + 1) = 101 ∧ tt ((I 218 2) + 2) = 97 ∧ tt ((I 218 2) + 3) = 100) from fun z => absurd z (by decide)) (show 0 = 0 → ¬ ((I 218 3) - (I 218 2) = 4 ∧ tt (I 218 2) = 114 ∧ tt ((I 218 2) + 1) = 101 ∧ tt ((I 218 2) + 2) = 97 ∧ tt ((I 218 2) + 3) = 100) from by first | omega | (simp only [wr, wl] at *; omega))⟩
      ·
        replace q20 : ¬ tt (wr ((I 218 2) + 1)) = 101 := by omega
        clear q21 z16
        exact ⟨rfl, (by decide), fun hv hA' => hQ _ (hv _ rfl) (show 0 ≤ 0 ∧ 0 ≤ 1 from by decide) (show 0 = 1 → ((I 218 3) - (I 218 2) = 4 ∧ tt (I 218 2) = 114 ∧ tt ((I 218 2) + 1) = 101 ∧ tt ((I 218 2) + 2) = 97 ∧ tt ((I 218 2) + 3) = 100) from fun z => absurd z (by decide)) (show 0 = 0 → ¬ ((I 218 3) - (I 218 2) = 4 ∧ tt (I 218 2) = 114 ∧ tt ((I 218 2) + 1) = 101 ∧ tt ((I 218 2) + 2) = 97 ∧ tt ((I 218 2) + 3) = 100) from by first | omega | (simp only [wr, wl] at *; omega))⟩
    ·
      replace q12 : ¬ tt (wr ((I 218 2) + 0)) = 114 := by omega
      clear q13 z8
      exact ⟨rfl, (by decide), fun hv hA' => hQ _ (hv _ rfl) (show 0 ≤ 0 ∧ 0 ≤ 1 from by decide) (show 0 = 1 → ((I 218 3) - (I 218 2) = 4 ∧ tt (I 218 2) = 114 ∧ tt ((I 218 2) + 1) = 101 ∧ tt ((I 218 2) + 2) = 97 ∧ tt ((I 218 2) + 3) = 100) from fun z => absurd z (by decide)) (show 0 = 0 → ¬ ((I 218 3) - (I 218 2) = 4 ∧ tt (I 218 2) = 114 ∧ tt ((I 218 2) + 1) = 101 ∧ tt ((I 218 2) + 2) = 97 ∧ tt ((I 218 2) + 3) = 100) from by first | omega | (simp only [wr, wl] at *; omega))⟩
  ·
    exact ⟨rfl, (by decide), fun hv hA' => hQ _ (hv _ rfl) (show 0 ≤ 0 ∧ 0 ≤ 1 from by decide) (show 0 = 1 → ((I 218 3) - (I 218 2) = 4 ∧ tt (I 218 2) = 114 ∧ tt ((I 218 2) + 1) = 101 ∧ tt ((I 218 2) + 2) = 97 ∧ tt ((I 218 2) + 3) = 100) from fun z => absurd z (by decide)) (show 0 = 0 → ¬ ((I 218 3) - (I 218 2) = 4 ∧ tt (I 218 2) = 114 ∧ tt ((I 218 2) + 1) = 101 ∧ tt ((I 218 2) + 2) = 97 ∧ tt ((I 218 2) + 3) = 100) from by first | omega | (simp only [wr, wl] at *; omega))⟩
theorem c_mk9_5 (hF : FS F) (hR : Rg I) (hx : F 218 0 = some 5) {tt : Int → Int} {nn : Int} (hl : I 218 1 = nn) (ht : TXT tt nn (I 5)) (hb : 0 ≤ I 218 2 ∧ I 218 2 ≤ I 218 3 ∧ I 218 3 ≤ nn) (h1 : mkW5 tt (I 218 2) (I 218 3) → I 218 3 - I 218 2 = 4 → Q (some (vi 1)) F I) (h0 : ¬ mkW5 tt (I 218 2) (I 218 3) → Q (some (vi 0)) F I) : CallN G (d + 4) kX9_isMark [vr 218, vr 4111] NP F I Q := by
  refine c_mark9_5 hF hR hx hl ht hb (fun r _ hr q1 q0 => ?_)
  by_cases e : r = 1
  · rw [e]; exact h1 (q1 e) (q1 e).1
  · have e0 : r = 0 := by omega
    rw [e0]; exact h0 (q0 e0)
theorem c_mark9_6 (hF : FS F) (hR : Rg I) (hx : F 218 0 = some 5) {tt : Int → Int} {nn : Int} (hl : I 218 1 = nn) (ht : TXT tt nn (I 5)) (hb : 0 ≤ I 218 2 ∧ I 218 2 ≤ I 218 3 ∧ I 218 3 ≤ nn) (hQ : ∀ r : Int, iR r → (0 ≤ r ∧ r ≤ 1) → (r = 1 → ((I 218 3) - (I 218 2) = 4 ∧ tt (I 218 2) = 116 ∧ tt ((I 218 2) + 1) = 105 ∧ tt ((I 218 2) + 2) = 108 ∧ tt ((I 218 2) + 3) = 108)) → (r = 0 → ¬ ((I 218 3) - (I 218 2) = 4 ∧ tt (I 218 2) = 116 ∧ tt ((I 218 2) + 1) = 105 ∧ tt ((I 218 2) + 2) = 108 ∧ tt ((I 218 2) + 3) = 108)) → Q (some (vi r)) F I) : CallN G (d + 4) kX9_isMark [vr 218, vr 4112] NP F I Q := by
  refine CallN_in (fun hok hA => CallN_out ?_)
  have hn2 := ht.1
  refine Call_wp (lv := [some (vr 218), some (vr 4112), none]) (by decide) ckX9_isMark [] rfl rfl ?_
  refine ⟨_, rfl, (by decide), ?_⟩
  have r1 : 0 ≤ (I 218 3) ∧ (I 218 3) ≤ 64 := (by omega)
  refine ⟨_, rfl, (by decide), ?_⟩
  have r2 : 0 ≤ (I 218 2) ∧ (I 218 2) ≤ 64 := (by omega)
  refine ⟨⟨6, (by decide), rfl⟩, ?_⟩
  refine Call_wp (lv := [some (vr 4112)]) (by decide) ckJ0_length_8abf5 [] rfl rfl ?_
  refine ⟨6, (by decide), rfl, ?_⟩
  refine Or.inr (Or.inr ⟨6, (by decide), rfl, ?_⟩)
  refine ⟨⟨6, (by decide), rfl⟩, ?_⟩
  refine Call_wp (lv := [some (vr 4112)]) (by decide) ckJ0_coder_7d493 [] rfl rfl ?_
  refine ⟨fun c => absurd c (show (¬ ((1 : Int) = 0)) from by decide), fun _ => ?_⟩
  refine ⟨6, (by decide), rfl, ?_⟩
  refine ⟨rfl, (by decide), ?_⟩
  refine ⟨rfl, ?_⟩
  have n5 : (wr ((I 218 3) - (I 218 2))) = (I 218 3) - (I 218 2) := wr_id (show -2147483648 ≤ ((I 218 3) - (I 218 2) : Int) ∧ ((I 218 3) - (I 218 2) : Int) < 2147483648 from by omega)
  refine ⟨fun (c6 : (((wr ((I 218 3) - (I 218 2))) : Int) = 4)) => ?_, fun (c6 : (¬ (((wr ((I 218 3) - (I 218 2))) : Int) = 4))) => ?_⟩
  ·
    refine ⟨⟨6, (by decide), rfl⟩, ?_⟩
    refine Call_wp (lv := [some (vr 4112)]) (by decide) ckJ0_length_8abf5 [] rfl rfl ?_
    refine ⟨6, (by decide), rfl, ?_⟩
    refine Or.inr (Or.inr ⟨6, (by decide), rfl, ?_⟩)
    refine ⟨⟨6, (by decide), rfl⟩, ?_⟩
    refine Call_wp (lv := [some (vr 4112)]) (by decide) ckJ0_coder_7d493 [] rfl rfl ?_
    refine ⟨fun c => absurd c (show (¬ ((1 : Int) = 0)) from by decide), fun _ => ?_⟩
    refine ⟨6, (by decide), rfl, ?_⟩
    refine ⟨rfl, (by decide), ?_⟩
    refine ⟨rfl, ?_⟩
    refine ⟨fun c => absurd c (show (¬ ((4 : Int) ≤ 0)) from by decide), fun _ => ?_⟩
    refine ⟨_, rfl, (by decide), ?_⟩
    refine ⟨⟨_, rfl, (by decide)⟩, ?_⟩
    have n7 : (wr ((I 218 2) + 0)) = (I 218 2) + 0 := wr_id (show -2147483648 ≤ ((I 218 2) + 0 : Int) ∧ ((I 218 2) + 0 : Int) < 2147483648 from by omega)
    have z8 := TXT_z ht (wr ((I 218 2) + 0))
    have z9 : tt (wr ((I 218 2) + 0)) = tt ((I 218 2)) := congrArg tt (by omega)
    refine c_byteAt9 (v0 := (wr ((I 218 2) + 0))) hF hR hx (hl) ht (fun vr10 hr11 q12 q13 => ?_)
    have hr11 : -2147483648 ≤ vr10 ∧ vr10 < 2147483648 := hr11
    have q12 : 32 ≤ vr10 ∧ vr10 ≤ 122 → tt ((wr ((I 218 2) + 0)) : Int) = vr10 := q12
    have q13 : ¬ (32 ≤ vr10 ∧ vr10 ≤ 122) → tt ((wr ((I 218 2) + 0)) : Int) = 0 := q13
    refine ⟨⟨6, (by decide), rfl⟩, ?_⟩
    refine Call_wp (lv := [some (vr 4112), some (vi 0)]) (by decide) ckJ0_charAt_5068e [] rfl rfl ?_
    refine ⟨⟨6, (by decide), rfl⟩, ?_⟩
    refine Call_wp (lv := [some (vr 4112)]) (by decide) ckJ0_isLatin1_aae02 [] rfl rfl ?_
    refine ⟨fun c => absurd c (show (¬ ((1 : Int) = 0)) from by decide), fun _ => ?_⟩
    refine ⟨6, (by decide), rfl, ?_⟩
    refine ⟨fun c => absurd (show ((0 : Int) = 0) from by decide) c, fun _ => ?_⟩
    refine ⟨rfl, (by decide), ?_⟩
    refine ⟨fun c => absurd c (show (¬ ((1 : Int) = 0)) from by decide), fun _ => ?_⟩
    refine ⟨6, (by decide), rfl, ?_⟩
    refine Call_wp (lv := [some (vr 4142), some (vi 0)]) (by decide) ckJ1_charAt_3b067 [] rfl rfl ?_
    refine Or.inr (Or.inr ⟨6, (by decide), rfl, ?_⟩)
    refine j_check (i := 0) (n := 4) (by omega) ?_
    refine ⟨6, (by decide), rfl, (by decide), (by decide), ?_⟩
    refine ⟨rfl, (by decide), ?_⟩
    refine ⟨rfl, (by decide), ?_⟩
    refine ⟨fun (c14 : ((vr10 : Int) = 116)) => ?_, fun (c14 : (¬ ((vr10 : Int) = 116))) => ?_⟩
    ·
      replace q12 : tt (wr ((I 218 2) + 0)) = 116 := by omega
      clear q13 z8
      refine ⟨⟨6, (by decide), rfl⟩, ?_⟩
      refine Call_wp (lv := [some (vr 4112)]) (by decide) ckJ0_length_8abf5 [] rfl rfl ?_
      refine ⟨6, (by decide), rfl, ?_⟩
      refine Or.inr (Or.inr ⟨6, (by decide), rfl, ?_⟩)
      refine ⟨⟨6, (by decide), rfl⟩, ?_⟩
      refine Call_wp (lv := [some (vr 4112)]) (by decide) ckJ0_coder_7d493 [] rfl rfl ?_
      refine ⟨fun c => absurd c (show (¬ ((1 : Int) = 0)) from by decide), fun _ => ?_⟩
      refine ⟨6, (by decide), rfl, ?_⟩
      refine ⟨rfl, (by decide), ?_⟩
      refine ⟨rfl, ?_⟩
      refine ⟨fun c => absurd c (show (¬ ((4 : Int) ≤ 1)) from by decide), fun _ => ?_⟩
      refine ⟨_, rfl, (by decide), ?_⟩
      refine ⟨⟨_, rfl, (by decide)⟩, ?_⟩
      have n15 : (wr ((I 218 2) + 1)) = (I 218 2) + 1 := wr_id (show -2147483648 ≤ ((I 218 2) + 1 : Int) ∧ ((I 218 2) + 1 : Int) < 2147483648 from by omega)
      have z16 := TXT_z ht (wr ((I 218 2) + 1))
      have z17 : tt (wr ((I 218 2) + 1)) = tt ((I 218 2) + 1) := congrArg tt (by omega)
      refine c_byteAt9 (v0 := (wr ((I 218 2) + 1))) hF hR hx (hl) ht (fun vr18 hr19 q20 q21 => ?_)
      have hr19 : -2147483648 ≤ vr18 ∧ vr18 < 2147483648 := hr19
      have q20 : 32 ≤ vr18 ∧ vr18 ≤ 122 → tt ((wr ((I 218 2) + 1)) : Int) = vr18 := q20
      have q21 : ¬ (32 ≤ vr18 ∧ vr18 ≤ 122) → tt ((wr ((I 218 2) + 1)) : Int) = 0 := q21
      refine ⟨⟨6, (by decide), rfl⟩, ?_⟩
      refine Call_wp (lv := [some (vr 4112), some (vi 1)]) (by decide) ckJ0_charAt_5068e [] rfl rfl ?_
      refine ⟨⟨6, (by decide), rfl⟩, ?_⟩
      refine Call_wp (lv := [some (vr 4112)]) (by decide) ckJ0_isLatin1_aae02 [] rfl rfl ?_
      refine ⟨fun c => absurd c (show (¬ ((1 : Int) = 0)) from by decide), fun _ => ?_⟩
      refine ⟨6, (by decide), rfl, ?_⟩
      refine ⟨fun c => absurd (show ((0 : Int) = 0) from by decide) c, fun _ => ?_⟩
      refine ⟨rfl, (by decide), ?_⟩
      refine ⟨fun c => absurd c (show (¬ ((1 : Int) = 0)) from by decide), fun _ => ?_⟩
      refine ⟨6, (by decide), rfl, ?_⟩
      refine Call_wp (lv := [some (vr 4142), some (vi 1)]) (by decide) ckJ1_charAt_3b067 [] rfl rfl ?_
      refine Or.inr (Or.inr ⟨6, (by decide), rfl, ?_⟩)
      refine j_check (i := 1) (n := 4) (by omega) ?_
      refine ⟨6, (by decide), rfl, (by decide), (by decide), ?_⟩
      refine ⟨rfl, (by decide), ?_⟩
      refine ⟨rfl, (by decide), ?_⟩
      refine ⟨fun (c22 : ((vr18 : Int) = 105)) => ?_, fun (c22 : (¬ ((vr18 : Int) = 105))) => ?_⟩
      ·
        replace q20 : tt (wr ((I 218 2) + 1)) = 105 := by omega
        clear q21 z16
        refine ⟨⟨6, (by decide), rfl⟩, ?_⟩
        refine Call_wp (lv := [some (vr 4112)]) (by decide) ckJ0_length_8abf5 [] rfl rfl ?_
        refine ⟨6, (by decide), rfl, ?_⟩
        refine Or.inr (Or.inr ⟨6, (by decide), rfl, ?_⟩)
        refine ⟨⟨6, (by decide), rfl⟩, ?_⟩
        refine Call_wp (lv := [some (vr 4112)]) (by decide) ckJ0_coder_7d493 [] rfl rfl ?_
        refine ⟨fun c => absurd c (show (¬ ((1 : Int) = 0)) from by decide), fun _ => ?_⟩
        refine ⟨6, (by decide), rfl, ?_⟩
        refine ⟨rfl, (by decide), ?_⟩
        refine ⟨rfl, ?_⟩
        refine ⟨fun c => absurd c (show (¬ ((4 : Int) ≤ 2)) from by decide), fun _ => ?_⟩
        refine ⟨_, rfl, (by decide), ?_⟩
        refine ⟨⟨_, rfl, (by decide)⟩, ?_⟩
        have n23 : (wr ((I 218 2) + 2)) = (I 218 2) + 2 := wr_id (show -2147483648 ≤ ((I 218 2) + 2 : Int) ∧ ((I 218 2) + 2 : Int) < 2147483648 from by omega)
        have z24 := TXT_z ht (wr ((I 218 2) + 2))
        have z25 : tt (wr ((I 218 2) + 2)) = tt ((I 218 2) + 2) := congrArg tt (by omega)
        refine c_byteAt9 (v0 := (wr ((I 218 2) + 2))) hF hR hx (hl) ht (fun vr26 hr27 q28 q29 => ?_)
        have hr27 : -2147483648 ≤ vr26 ∧ vr26 < 2147483648 := hr27
        have q28 : 32 ≤ vr26 ∧ vr26 ≤ 122 → tt ((wr ((I 218 2) + 2)) : Int) = vr26 := q28
        have q29 : ¬ (32 ≤ vr26 ∧ vr26 ≤ 122) → tt ((wr ((I 218 2) + 2)) : Int) = 0 := q29
        refine ⟨⟨6, (by decide), rfl⟩, ?_⟩
        refine Call_wp (lv := [some (vr 4112), some (vi 2)]) (by decide) ckJ0_charAt_5068e [] rfl rfl ?_
        refine ⟨⟨6, (by decide), rfl⟩, ?_⟩
        refine Call_wp (lv := [some (vr 4112)]) (by decide) ckJ0_isLatin1_aae02 [] rfl rfl ?_
        refine ⟨fun c => absurd c (show (¬ ((1 : Int) = 0)) from by decide), fun _ => ?_⟩
        refine ⟨6, (by decide), rfl, ?_⟩
        refine ⟨fun c => absurd (show ((0 : Int) = 0) from by decide) c, fun _ => ?_⟩
        refine ⟨rfl, (by decide), ?_⟩
        refine ⟨fun c => absurd c (show (¬ ((1 : Int) = 0)) from by decide), fun _ => ?_⟩
        refine ⟨6, (by decide), rfl, ?_⟩
        refine Call_wp (lv := [some (vr 4142), some (vi 2)]) (by decide) ckJ1_charAt_3b067 [] rfl rfl ?_
        refine Or.inr (Or.inr ⟨6, (by decide), rfl, ?_⟩)
        refine j_check (i := 2) (n := 4) (by omega) ?_
        refine ⟨6, (by decide), rfl, (by decide), (by decide), ?_⟩
        refine ⟨rfl, (by decide), ?_⟩
        refine ⟨rfl, (by decide), ?_⟩
        refine ⟨fun (c30 : ((vr26 : Int) = 108)) => ?_, fun (c30 : (¬ ((vr26 : Int) = 108))) => ?_⟩
        ·
          replace q28 : tt (wr ((I 218 2) + 2)) = 108 := by omega
          clear q29 z24
          refine ⟨⟨6, (by decide), rfl⟩, ?_⟩
          refine Call_wp (lv := [some (vr 4112)]) (by decide) ckJ0_length_8abf5 [] rfl rfl ?_
          refine ⟨6, (by decide), rfl, ?_⟩
          refine Or.inr (Or.inr ⟨6, (by decide), rfl, ?_⟩)
          refine ⟨⟨6, (by decide), rfl⟩, ?_⟩
          refine Call_wp (lv := [some (vr 4112)]) (by decide) ckJ0_coder_7d493 [] rfl rfl ?_
          refine ⟨fun c => absurd c (show (¬ ((1 : Int) = 0)) from by decide), fun _ => ?_⟩
          refine ⟨6, (by decide), rfl, ?_⟩
          refine ⟨rfl, (by decide), ?_⟩
          refine ⟨rfl, ?_⟩
          refine ⟨fun c => absurd c (show (¬ ((4 : Int) ≤ 3)) from by decide), fun _ => ?_⟩
          refine ⟨_, rfl, (by decide), ?_⟩
          refine ⟨⟨_, rfl, (by decide)⟩, ?_⟩
          have n31 : (wr ((I 218 2) + 3)) = (I 218 2) + 3 := wr_id (show -2147483648 ≤ ((I 218 2) + 3 : Int) ∧ ((I 218 2) + 3 : Int) < 2147483648 from by omega)
          have z32 := TXT_z ht (wr ((I 218 2) + 3))
          have z33 : tt (wr ((I 218 2) + 3)) = tt ((I 218 2) + 3) := congrArg tt (by omega)
          refine c_byteAt9 (v0 := (wr ((I 218 2) + 3))) hF hR hx (hl) ht (fun vr34 hr35 q36 q37 => ?_)
          have hr35 : -2147483648 ≤ vr34 ∧ vr34 < 2147483648 := hr35
          have q36 : 32 ≤ vr34 ∧ vr34 ≤ 122 → tt ((wr ((I 218 2) + 3)) : Int) = vr34 := q36
          have q37 : ¬ (32 ≤ vr34 ∧ vr34 ≤ 122) → tt ((wr ((I 218 2) + 3)) : Int) = 0 := q37
          refine ⟨⟨6, (by decide), rfl⟩, ?_⟩
          refine Call_wp (lv := [some (vr 4112), some (vi 3)]) (by decide) ckJ0_charAt_5068e [] rfl rfl ?_
          refine ⟨⟨6, (by decide), rfl⟩, ?_⟩
          refine Call_wp (lv := [some (vr 4112)]) (by decide) ckJ0_isLatin1_aae02 [] rfl rfl ?_
          refine ⟨fun c => absurd c (show (¬ ((1 : Int) = 0)) from by decide), fun _ => ?_⟩
          refine ⟨6, (by decide), rfl, ?_⟩
          refine ⟨fun c => absurd (show ((0 : Int) = 0) from by decide) c, fun _ => ?_⟩
          refine ⟨rfl, (by decide), ?_⟩
          refine ⟨fun c => absurd c (show (¬ ((1 : Int) = 0)) from by decide), fun _ => ?_⟩
          refine ⟨6, (by decide), rfl, ?_⟩
          refine Call_wp (lv := [some (vr 4142), some (vi 3)]) (by decide) ckJ1_charAt_3b067 [] rfl rfl ?_
          refine Or.inr (Or.inr ⟨6, (by decide), rfl, ?_⟩)
          refine j_check (i := 3) (n := 4) (by omega) ?_
          refine ⟨6, (by decide), rfl, (by decide), (by decide), ?_⟩
          refine ⟨rfl, (by decide), ?_⟩
          refine ⟨rfl, (by decide), ?_⟩
          refine ⟨fun (c38 : ((vr34 : Int) = 108)) => ?_, fun (c38 : (¬ ((vr34 : Int) = 108))) => ?_⟩
          ·
            replace q36 : tt (wr ((I 218 2) + 3)) = 108 := by omega
            clear q37 z32
            refine ⟨⟨6, (by decide), rfl⟩, ?_⟩
            refine Call_wp (lv := [some (vr 4112)]) (by decide) ckJ0_length_8abf5 [] rfl rfl ?_
            refine ⟨6, (by decide), rfl, ?_⟩
            refine Or.inr (Or.inr ⟨6, (by decide), rfl, ?_⟩)
            refine ⟨⟨6, (by decide), rfl⟩, ?_⟩
            refine Call_wp (lv := [some (vr 4112)]) (by decide) ckJ0_coder_7d493 [] rfl rfl ?_
            refine ⟨fun c => absurd c (show (¬ ((1 : Int) = 0)) from by decide), fun _ => ?_⟩
            refine ⟨6, (by decide), rfl, ?_⟩
            refine ⟨rfl, (by decide), ?_⟩
            refine ⟨rfl, ?_⟩
            refine ⟨fun _ => ?_, fun c => absurd (show ((4 : Int) ≤ 4) from by decide) c⟩
            exact ⟨rfl, (by decide), fun hv hA' => hQ _ (hv _ rfl) (show 0 ≤ 1 ∧ 1 ≤ 1 from by decide) (show 1 = 1 → ((I 218 3) - (I 218 2) = 4 ∧ tt (I 218 2) = 116 ∧ tt ((I 218 2) + 1) = 105 ∧ tt ((I 218 2) + 2) = 108 ∧ tt ((I 218 2) + 3) = 108) from by first | omega | (simp only [wr, wl] at *; omega)) (show 1 = 0 → ¬ ((I 218 3) - (I 218 2) = 4 ∧ tt (I 218 2) = 116 ∧ tt ((I 218 2) + 1) = 105 ∧ tt ((I 218 2) + 2) = 108 ∧ tt ((I 218 2) + 3) = 108) from fun z => absurd z (by decide))⟩
          ·
            replace q36 : ¬ tt (wr ((I 218 2) + 3)) = 108 := by omega
            clear q37 z32
            exact ⟨rfl, (by decide), fun hv hA' => hQ _ (hv _ rfl) (show 0 ≤ 0 ∧ 0 ≤ 1 from by decide) (show 0 = 1 → ((I 218 3) - (I 218 2) = 4 ∧ tt (I 218 2) = 116 ∧ tt ((I 218 2) + 1) = 105 ∧ tt ((I 218 2) + 2) = 108 ∧ tt ((I 218 2) + 3) = 108) from fun z => absurd z (by decide)) (show 0 = 0 → ¬ ((I 218 3) - (I 218 2) = 4 ∧ tt (I 218 2) = 116 ∧ tt ((I 218 2) + 1) = 105 ∧ tt ((I 218 2) + 2) = 108 ∧ tt ((I 218 2) + 3) = 108) from by first | omega | (simp only [wr, wl] at *; omega))⟩
        ·
          replace q28 : ¬ tt (wr ((I 218 2) + 2)) = 108 := by omega
          clear q29 z24
          exact ⟨rfl, (by decide), fun hv hA' => hQ _ (hv _ rfl) (show 0 ≤ 0 ∧ 0 ≤ 1 from by decide) (show 0 = 1 → ((I 218 3) - (I 218 2) = 4 ∧ tt (I 218 2) = 116 ∧ tt ((I 218 2) + 1) = 105 ∧ tt ((I 218 2) + 2) = 108 ∧ tt ((I 218 2) + 3) = 108) from fun z => absurd z (by decide)) (show 0 = 0 → ¬ ((I 218 3) - (I 218 2) = 4 ∧ tt (I 218 2) = 116 ∧ tt ((I 218 2) + 1) = 105 ∧ tt ((I 218 2) + 2) = 108 ∧ tt ((I 218 2) + 3) = 108) from by first | omega | (simp only [wr, wl] at *; omega))⟩
      ·
        replace q20 : ¬ tt (wr ((I 218 2) + 1)) = 105 := by omega
        clear q21 z16
        exact ⟨rfl, (by decide), fun hv hA' => hQ _ (hv _ rfl) (show 0 ≤ 0 ∧ 0 ≤ 1 from by decide) (show 0 = 1 → ((I 218 3) - (I 218 2) = 4 ∧ tt (I 218 2) = 116 ∧ tt ((I 218 2) + 1) = 105 ∧ tt ((I 218 2) + 2) = 108 ∧ tt ((I 218 2) + 3) = 108) from fun z => absurd z (by decide)) (show 0 = 0 → ¬ ((I 218 3) - (I 218 2) = 4 ∧ tt (I 218 2) = 116 ∧ tt ((I 218 2) + 1) = 105 ∧ tt ((I 218 2) + 2) = 108 ∧ tt ((I 218 2) + 3) = 108) from by first | omega | (simp only [wr, wl] at *; omega))⟩
    ·
      replace q12 : ¬ tt (wr ((I 218 2) + 0)) = 116 := by omega
      clear q13 z8
      exact ⟨rfl, (by decide), fun hv hA' => hQ _ (hv _ rfl) (show 0 ≤ 0 ∧ 0 ≤ 1 from by decide) (show 0 = 1 → ((I 218 3) - (I 218 2) = 4 ∧ tt (I 218 2) = 116 ∧ tt ((I 218 2) + 1) = 105 ∧ tt ((I 218 2) + 2) = 108 ∧ tt ((I 218 2) + 3) = 108) from fun z => absurd z (by decide)) (show 0 = 0 → ¬ ((I 218 3) - (I 218 2) = 4 ∧ tt (I 218 2) = 116 ∧ tt ((I 218 2) + 1) = 105 ∧ tt ((I 218 2) + 2) = 108 ∧ tt ((I 218 2) + 3) = 108) from by first | omega | (simp only [wr, wl] at *; omega))⟩
  ·
    exact ⟨rfl, (by decide), fun hv hA' => hQ _ (hv _ rfl) (show 0 ≤ 0 ∧ 0 ≤ 1 from by decide) (show 0 = 1 → ((I 218 3) - (I 218 2) = 4 ∧ tt (I 218 2) = 116 ∧ tt ((I 218 2) + 1) = 105 ∧ tt ((I 218 2) + 2) = 108 ∧ tt ((I 218 2) + 3) = 108) from fun z => absurd z (by decide)) (show 0 = 0 → ¬ ((I 218 3) - (I 218 2) = 4 ∧ tt (I 218 2) = 116 ∧ tt ((I 218 2) + 1) = 105 ∧ tt ((I 218 2) + 2) = 108 ∧ tt ((I 218 2) + 3) = 108) from by first | omega | (simp only [wr, wl] at *; omega))⟩
theorem c_mk9_6 (hF : FS F) (hR : Rg I) (hx : F 218 0 = some 5) {tt : Int → Int} {nn : Int} (hl : I 218 1 = nn) (ht : TXT tt nn (I 5)) (hb : 0 ≤ I 218 2 ∧ I 218 2 ≤ I 218 3 ∧ I 218 3 ≤ nn) (h1 : mkW6 tt (I 218 2) (I 218 3) → I 218 3 - I 218 2 = 4 → Q (some (vi 1)) F I) (h0 : ¬ mkW6 tt (I 218 2) (I 218 3) → Q (some (vi 0)) F I) : CallN G (d + 4) kX9_isMark [vr 218, vr 4112] NP F I Q := by
  refine c_mark9_6 hF hR hx hl ht hb (fun r _ hr q1 q0 => ?_)
  by_cases e : r = 1
  · rw [e]; exact h1 (q1 e) (q1 e).1
  · have e0 : r = 0 := by omega
    rw [e0]; exact h0 (q0 e0)
theorem c_mark9_7 (hF : FS F) (hR : Rg I) (hx : F 218 0 = some 5) {tt : Int → Int} {nn : Int} (hl : I 218 1 = nn) (ht : TXT tt nn (I 5)) (hb : 0 ≤ I 218 2 ∧ I 218 2 ≤ I 218 3 ∧ I 218 3 ≤ nn) (hQ : ∀ r : Int, iR r → (0 ≤ r ∧ r ≤ 1) → (r = 1 → ((I 218 3) - (I 218 2) = 1 ∧ tt (I 218 2) = 44)) → (r = 0 → ¬ ((I 218 3) - (I 218 2) = 1 ∧ tt (I 218 2) = 44)) → Q (some (vi r)) F I) : CallN G (d + 4) kX9_isMark [vr 218, vr 4113] NP F I Q := by
  refine CallN_in (fun hok hA => CallN_out ?_)
  have hn2 := ht.1
  refine Call_wp (lv := [some (vr 218), some (vr 4113), none]) (by decide) ckX9_isMark [] rfl rfl ?_
  refine ⟨_, rfl, (by decide), ?_⟩
  have r1 : 0 ≤ (I 218 3) ∧ (I 218 3) ≤ 64 := (by omega)
  refine ⟨_, rfl, (by decide), ?_⟩
  have r2 : 0 ≤ (I 218 2) ∧ (I 218 2) ≤ 64 := (by omega)
  refine ⟨⟨7, (by decide), rfl⟩, ?_⟩
  refine Call_wp (lv := [some (vr 4113)]) (by decide) ckJ0_length_8abf5 [] rfl rfl ?_
  refine ⟨7, (by decide), rfl, ?_⟩
  refine Or.inr (Or.inr ⟨7, (by decide), rfl, ?_⟩)
  refine ⟨⟨7, (by decide), rfl⟩, ?_⟩
  refine Call_wp (lv := [some (vr 4113)]) (by decide) ckJ0_coder_7d493 [] rfl rfl ?_
  refine ⟨fun c => absurd c (show (¬ ((1 : Int) = 0)) from by decide), fun _ => ?_⟩
  refine ⟨7, (by decide), rfl, ?_⟩
  refine ⟨rfl, (by decide), ?_⟩
  refine ⟨rfl, ?_⟩
  have n5 : (wr ((I 218 3) - (I 218 2))) = (I 218 3) - (I 218 2) := wr_id (show -2147483648 ≤ ((I 218 3) - (I 218 2) : Int) ∧ ((I 218 3) - (I 218 2) : Int) < 2147483648 from by omega)
  refine ⟨fun (c6 : (((wr ((I 218 3) - (I 218 2))) : Int) = 1)) => ?_, fun (c6 : (¬ (((wr ((I 218 3) - (I 218 2))) : Int) = 1))) => ?_⟩
  ·
    refine ⟨⟨7, (by decide), rfl⟩, ?_⟩
    refine Call_wp (lv := [some (vr 4113)]) (by decide) ckJ0_length_8abf5 [] rfl rfl ?_
    refine ⟨7, (by decide), rfl, ?_⟩
    refine Or.inr (Or.inr ⟨7, (by decide), rfl, ?_⟩)
    refine ⟨⟨7, (by decide), rfl⟩, ?_⟩
    refine Call_wp (lv := [some (vr 4113)]) (by decide) ckJ0_coder_7d493 [] rfl rfl ?_
    refine ⟨fun c => absurd c (show (¬ ((1 : Int) = 0)) from by decide), fun _ => ?_⟩
    refine ⟨7, (by decide), rfl, ?_⟩
    refine ⟨rfl, (by decide), ?_⟩
    refine ⟨rfl, ?_⟩
    refine ⟨fun c => absurd c (show (¬ ((1 : Int) ≤ 0)) from by decide), fun _ => ?_⟩
    refine ⟨_, rfl, (by decide), ?_⟩
    refine ⟨⟨_, rfl, (by decide)⟩, ?_⟩
    have n7 : (wr ((I 218 2) + 0)) = (I 218 2) + 0 := wr_id (show -2147483648 ≤ ((I 218 2) + 0 : Int) ∧ ((I 218 2) + 0 : Int) < 2147483648 from by omega)
    have z8 := TXT_z ht (wr ((I 218 2) + 0))
    have z9 : tt (wr ((I 218 2) + 0)) = tt ((I 218 2)) := congrArg tt (by omega)
    refine c_byteAt9 (v0 := (wr ((I 218 2) + 0))) hF hR hx (hl) ht (fun vr10 hr11 q12 q13 => ?_)
    have hr11 : -2147483648 ≤ vr10 ∧ vr10 < 2147483648 := hr11
    have q12 : 32 ≤ vr10 ∧ vr10 ≤ 122 → tt ((wr ((I 218 2) + 0)) : Int) = vr10 := q12
    have q13 : ¬ (32 ≤ vr10 ∧ vr10 ≤ 122) → tt ((wr ((I 218 2) + 0)) : Int) = 0 := q13
    refine ⟨⟨7, (by decide), rfl⟩, ?_⟩
    refine Call_wp (lv := [some (vr 4113), some (vi 0)]) (by decide) ckJ0_charAt_5068e [] rfl rfl ?_
    refine ⟨⟨7, (by decide), rfl⟩, ?_⟩
    refine Call_wp (lv := [some (vr 4113)]) (by decide) ckJ0_isLatin1_aae02 [] rfl rfl ?_
    refine ⟨fun c => absurd c (show (¬ ((1 : Int) = 0)) from by decide), fun _ => ?_⟩
    refine ⟨7, (by decide), rfl, ?_⟩
    refine ⟨fun c => absurd (show ((0 : Int) = 0) from by decide) c, fun _ => ?_⟩
    refine ⟨rfl, (by decide), ?_⟩
    refine ⟨fun c => absurd c (show (¬ ((1 : Int) = 0)) from by decide), fun _ => ?_⟩
    refine ⟨7, (by decide), rfl, ?_⟩
    refine Call_wp (lv := [some (vr 4143), some (vi 0)]) (by decide) ckJ1_charAt_3b067 [] rfl rfl ?_
    refine Or.inr (Or.inr ⟨7, (by decide), rfl, ?_⟩)
    refine j_check (i := 0) (n := 1) (by omega) ?_
    refine ⟨7, (by decide), rfl, (by decide), (by decide), ?_⟩
    refine ⟨rfl, (by decide), ?_⟩
    refine ⟨rfl, (by decide), ?_⟩
    refine ⟨fun (c14 : ((vr10 : Int) = 44)) => ?_, fun (c14 : (¬ ((vr10 : Int) = 44))) => ?_⟩
    ·
      replace q12 : tt (wr ((I 218 2) + 0)) = 44 := by omega
      clear q13 z8
      refine ⟨⟨7, (by decide), rfl⟩, ?_⟩
      refine Call_wp (lv := [some (vr 4113)]) (by decide) ckJ0_length_8abf5 [] rfl rfl ?_
      refine ⟨7, (by decide), rfl, ?_⟩
      refine Or.inr (Or.inr ⟨7, (by decide), rfl, ?_⟩)
      refine ⟨⟨7, (by decide), rfl⟩, ?_⟩
      refine Call_wp (lv := [some (vr 4113)]) (by decide) ckJ0_coder_7d493 [] rfl rfl ?_
      refine ⟨fun c => absurd c (show (¬ ((1 : Int) = 0)) from by decide), fun _ => ?_⟩
      refine ⟨7, (by decide), rfl, ?_⟩
      refine ⟨rfl, (by decide), ?_⟩
      refine ⟨rfl, ?_⟩
      refine ⟨fun _ => ?_, fun c => absurd (show ((1 : Int) ≤ 1) from by decide) c⟩
      exact ⟨rfl, (by decide), fun hv hA' => hQ _ (hv _ rfl) (show 0 ≤ 1 ∧ 1 ≤ 1 from by decide) (show 1 = 1 → ((I 218 3) - (I 218 2) = 1 ∧ tt (I 218 2) = 44) from by first | with_reducible assumption | omega | (simp only [wr, wl] at *; omega)) (show 1 = 0 → ¬ ((I 218 3) - (I 218 2) = 1 ∧ tt (I 218 2) = 44) from fun z => absurd z (by decide))⟩
    ·
      replace q12 : ¬ tt (wr ((I 218 2) + 0)) = 44 := by omega
      clear q13 z8
      exact ⟨rfl, (by decide), fun hv hA' => hQ _ (hv _ rfl) (show 0 ≤ 0 ∧ 0 ≤ 1 from by decide) (show 0 = 1 → ((I 218 3) - (I 218 2) = 1 ∧ tt (I 218 2) = 44) from fun z => absurd z (by decide)) (show 0 = 0 → ¬ ((I 218 3) - (I 218 2) = 1 ∧ tt (I 218 2) = 44) from by first | with_reducible assumption | omega | (simp only [wr, wl] at *; omega))⟩
  ·
    exact ⟨rfl, (by decide), fun hv hA' => hQ _ (hv _ rfl) (show 0 ≤ 0 ∧ 0 ≤ 1 from by decide) (show 0 = 1 → ((I 218 3) - (I 218 2) = 1 ∧ tt (I 218 2) = 44) from fun z => absurd z (by decide)) (show 0 = 0 → ¬ ((I 218 3) - (I 218 2) = 1 ∧ tt (I 218 2) = 44) from by first | with_reducible assumption | omega | (simp only [wr, wl] at *; omega))⟩
theorem c_mk9_7 (hF : FS F) (hR : Rg I) (hx : F 218 0 = some 5) {tt : Int → Int} {nn : Int} (hl : I 218 1 = nn) (ht : TXT tt nn (I 5)) (hb : 0 ≤ I 218 2 ∧ I 218 2 ≤ I 218 3 ∧ I 218 3 ≤ nn) (h1 : mkW7 tt (I 218 2) (I 218 3) → I 218 3 - I 218 2 = 1 → Q (some (vi 1)) F I) (h0 : ¬ mkW7 tt (I 218 2) (I 218 3) → Q (some (vi 0)) F I) : CallN G (d + 4) kX9_isMark [vr 218, vr 4113] NP F I Q := by
  refine c_mark9_7 hF hR hx hl ht hb (fun r _ hr q1 q0 => ?_)
  by_cases e : r = 1
  · rw [e]; exact h1 (q1 e) (q1 e).1
  · have e0 : r = 0 := by omega
    rw [e0]; exact h0 (q0 e0)
theorem c_mark9_8 (hF : FS F) (hR : Rg I) (hx : F 218 0 = some 5) {tt : Int → Int} {nn : Int} (hl : I 218 1 = nn) (ht : TXT tt nn (I 5)) (hb : 0 ≤ I 218 2 ∧ I 218 2 ≤ I 218 3 ∧ I 218 3 ≤ nn) (hQ : ∀ r : Int, iR r → (0 ≤ r ∧ r ≤ 1) → (r = 1 → ((I 218 3) - (I 218 2) = 1 ∧ tt (I 218 2) = 59)) → (r = 0 → ¬ ((I 218 3) - (I 218 2) = 1 ∧ tt (I 218 2) = 59)) → Q (some (vi r)) F I) : CallN G (d + 4) kX9_isMark [vr 218, vr 4114] NP F I Q := by
  refine CallN_in (fun hok hA => CallN_out ?_)
  have hn2 := ht.1
  refine Call_wp (lv := [some (vr 218), some (vr 4114), none]) (by decide) ckX9_isMark [] rfl rfl ?_
  refine ⟨_, rfl, (by decide), ?_⟩
  have r1 : 0 ≤ (I 218 3) ∧ (I 218 3) ≤ 64 := (by omega)
  refine ⟨_, rfl, (by decide), ?_⟩
  have r2 : 0 ≤ (I 218 2) ∧ (I 218 2) ≤ 64 := (by omega)
  refine ⟨⟨8, (by decide), rfl⟩, ?_⟩
  refine Call_wp (lv := [some (vr 4114)]) (by decide) ckJ0_length_8abf5 [] rfl rfl ?_
  refine ⟨8, (by decide), rfl, ?_⟩
  refine Or.inr (Or.inr ⟨8, (by decide), rfl, ?_⟩)
  refine ⟨⟨8, (by decide), rfl⟩, ?_⟩
  refine Call_wp (lv := [some (vr 4114)]) (by decide) ckJ0_coder_7d493 [] rfl rfl ?_
  refine ⟨fun c => absurd c (show (¬ ((1 : Int) = 0)) from by decide), fun _ => ?_⟩
  refine ⟨8, (by decide), rfl, ?_⟩
  refine ⟨rfl, (by decide), ?_⟩
  refine ⟨rfl, ?_⟩
  have n5 : (wr ((I 218 3) - (I 218 2))) = (I 218 3) - (I 218 2) := wr_id (show -2147483648 ≤ ((I 218 3) - (I 218 2) : Int) ∧ ((I 218 3) - (I 218 2) : Int) < 2147483648 from by omega)
  refine ⟨fun (c6 : (((wr ((I 218 3) - (I 218 2))) : Int) = 1)) => ?_, fun (c6 : (¬ (((wr ((I 218 3) - (I 218 2))) : Int) = 1))) => ?_⟩
  ·
    refine ⟨⟨8, (by decide), rfl⟩, ?_⟩
    refine Call_wp (lv := [some (vr 4114)]) (by decide) ckJ0_length_8abf5 [] rfl rfl ?_
    refine ⟨8, (by decide), rfl, ?_⟩
    refine Or.inr (Or.inr ⟨8, (by decide), rfl, ?_⟩)
    refine ⟨⟨8, (by decide), rfl⟩, ?_⟩
    refine Call_wp (lv := [some (vr 4114)]) (by decide) ckJ0_coder_7d493 [] rfl rfl ?_
    refine ⟨fun c => absurd c (show (¬ ((1 : Int) = 0)) from by decide), fun _ => ?_⟩
    refine ⟨8, (by decide), rfl, ?_⟩
    refine ⟨rfl, (by decide), ?_⟩
    refine ⟨rfl, ?_⟩
    refine ⟨fun c => absurd c (show (¬ ((1 : Int) ≤ 0)) from by decide), fun _ => ?_⟩
    refine ⟨_, rfl, (by decide), ?_⟩
    refine ⟨⟨_, rfl, (by decide)⟩, ?_⟩
    have n7 : (wr ((I 218 2) + 0)) = (I 218 2) + 0 := wr_id (show -2147483648 ≤ ((I 218 2) + 0 : Int) ∧ ((I 218 2) + 0 : Int) < 2147483648 from by omega)
    have z8 := TXT_z ht (wr ((I 218 2) + 0))
    have z9 : tt (wr ((I 218 2) + 0)) = tt ((I 218 2)) := congrArg tt (by omega)
    refine c_byteAt9 (v0 := (wr ((I 218 2) + 0))) hF hR hx (hl) ht (fun vr10 hr11 q12 q13 => ?_)
    have hr11 : -2147483648 ≤ vr10 ∧ vr10 < 2147483648 := hr11
    have q12 : 32 ≤ vr10 ∧ vr10 ≤ 122 → tt ((wr ((I 218 2) + 0)) : Int) = vr10 := q12
    have q13 : ¬ (32 ≤ vr10 ∧ vr10 ≤ 122) → tt ((wr ((I 218 2) + 0)) : Int) = 0 := q13
    refine ⟨⟨8, (by decide), rfl⟩, ?_⟩
    refine Call_wp (lv := [some (vr 4114), some (vi 0)]) (by decide) ckJ0_charAt_5068e [] rfl rfl ?_
    refine ⟨⟨8, (by decide), rfl⟩, ?_⟩
    refine Call_wp (lv := [some (vr 4114)]) (by decide) ckJ0_isLatin1_aae02 [] rfl rfl ?_
    refine ⟨fun c => absurd c (show (¬ ((1 : Int) = 0)) from by decide), fun _ => ?_⟩
    refine ⟨8, (by decide), rfl, ?_⟩
    refine ⟨fun c => absurd (show ((0 : Int) = 0) from by decide) c, fun _ => ?_⟩
    refine ⟨rfl, (by decide), ?_⟩
    refine ⟨fun c => absurd c (show (¬ ((1 : Int) = 0)) from by decide), fun _ => ?_⟩
    refine ⟨8, (by decide), rfl, ?_⟩
    refine Call_wp (lv := [some (vr 4144), some (vi 0)]) (by decide) ckJ1_charAt_3b067 [] rfl rfl ?_
    refine Or.inr (Or.inr ⟨8, (by decide), rfl, ?_⟩)
    refine j_check (i := 0) (n := 1) (by omega) ?_
    refine ⟨8, (by decide), rfl, (by decide), (by decide), ?_⟩
    refine ⟨rfl, (by decide), ?_⟩
    refine ⟨rfl, (by decide), ?_⟩
    refine ⟨fun (c14 : ((vr10 : Int) = 59)) => ?_, fun (c14 : (¬ ((vr10 : Int) = 59))) => ?_⟩
    ·
      replace q12 : tt (wr ((I 218 2) + 0)) = 59 := by omega
      clear q13 z8
      refine ⟨⟨8, (by decide), rfl⟩, ?_⟩
      refine Call_wp (lv := [some (vr 4114)]) (by decide) ckJ0_length_8abf5 [] rfl rfl ?_
      refine ⟨8, (by decide), rfl, ?_⟩
      refine Or.inr (Or.inr ⟨8, (by decide), rfl, ?_⟩)
      refine ⟨⟨8, (by decide), rfl⟩, ?_⟩
      refine Call_wp (lv := [some (vr 4114)]) (by decide) ckJ0_coder_7d493 [] rfl rfl ?_
      refine ⟨fun c => absurd c (show (¬ ((1 : Int) = 0)) from by decide), fun _ => ?_⟩
      refine ⟨8, (by decide), rfl, ?_⟩
      refine ⟨rfl, (by decide), ?_⟩
      refine ⟨rfl, ?_⟩
      refine ⟨fun _ => ?_, fun c => absurd (show ((1 : Int) ≤ 1) from by decide) c⟩
      exact ⟨rfl, (by decide), fun hv hA' => hQ _ (hv _ rfl) (show 0 ≤ 1 ∧ 1 ≤ 1 from by decide) (show 1 = 1 → ((I 218 3) - (I 218 2) = 1 ∧ tt (I 218 2) = 59) from by first | with_reducible assumption | omega | (simp only [wr, wl] at *; omega)) (show 1 = 0 → ¬ ((I 218 3) - (I 218 2) = 1 ∧ tt (I 218 2) = 59) from fun z => absurd z (by decide))⟩
    ·
      replace q12 : ¬ tt (wr ((I 218 2) + 0)) = 59 := by omega
      clear q13 z8
      exact ⟨rfl, (by decide), fun hv hA' => hQ _ (hv _ rfl) (show 0 ≤ 0 ∧ 0 ≤ 1 from by decide) (show 0 = 1 → ((I 218 3) - (I 218 2) = 1 ∧ tt (I 218 2) = 59) from fun z => absurd z (by decide)) (show 0 = 0 → ¬ ((I 218 3) - (I 218 2) = 1 ∧ tt (I 218 2) = 59) from by first | with_reducible assumption | omega | (simp only [wr, wl] at *; omega))⟩
  ·
    exact ⟨rfl, (by decide), fun hv hA' => hQ _ (hv _ rfl) (show 0 ≤ 0 ∧ 0 ≤ 1 from by decide) (show 0 = 1 → ((I 218 3) - (I 218 2) = 1 ∧ tt (I 218 2) = 59) from fun z => absurd z (by decide)) (show 0 = 0 → ¬ ((I 218 3) - (I 218 2) = 1 ∧ tt (I 218 2) = 59) from by first | with_reducible assumption | omega | (simp only [wr, wl] at *; omega))⟩
theorem c_mk9_8 (hF : FS F) (hR : Rg I) (hx : F 218 0 = some 5) {tt : Int → Int} {nn : Int} (hl : I 218 1 = nn) (ht : TXT tt nn (I 5)) (hb : 0 ≤ I 218 2 ∧ I 218 2 ≤ I 218 3 ∧ I 218 3 ≤ nn) (h1 : mkW8 tt (I 218 2) (I 218 3) → I 218 3 - I 218 2 = 1 → Q (some (vi 1)) F I) (h0 : ¬ mkW8 tt (I 218 2) (I 218 3) → Q (some (vi 0)) F I) : CallN G (d + 4) kX9_isMark [vr 218, vr 4114] NP F I Q := by
  refine c_mark9_8 hF hR hx hl ht hb (fun r _ hr q1 q0 => ?_)
  by_cases e : r = 1
  · rw [e]; exact h1 (q1 e) (q1 e).1
  · have e0 : r = 0 := by omega
    rw [e0]; exact h0 (q0 e0)
end CM9
