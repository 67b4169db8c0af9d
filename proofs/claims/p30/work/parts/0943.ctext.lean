/-! the class reads a text, from any state. Own work (scripts laid by wip/pm/gen31.py). -/
section CT
variable {G : pG} {d : Nat} {F : pF} {I : pI} {Q : Option pV → pF → pI → Prop}
theorem c_byteAt (hF : FS F) (hR : Rg I) {v0 : Int} (hx : F 218 0 = some 5) (hQ : ∀ r : Int, iR r → Q (some (vi r)) F I) : CallN G d kX9_byteAt [vr 218, vi v0] NP F I Q := by
  refine CallN_in (fun hok hA => CallN_out ?_)
  have iv0 : -2147483648 ≤ v0 ∧ v0 < 2147483648 := hok (vi v0) (by simp)
  refine Call_wp (lv := [some (vr 218), some (vi v0)]) (by decide) ckX9_byteAt [] rfl rfl ?_
  refine ⟨fun (c1 : ((v0 : Int) < 0)) => ?_, fun (c1 : (¬ ((v0 : Int) < 0))) => ?_⟩
  ·
    exact ⟨rfl, fun hv hA' => hQ _ (hv _ rfl)⟩
  ·
    refine ⟨_, rfl, (by decide), ?_⟩
    have a2 : -2147483648 ≤ (I 218 1) ∧ (I 218 1) < 2147483648 := hA.1 _ _
    refine ⟨fun (c3 : (((I 218 1) : Int) ≤ v0)) => ?_, fun (c3 : (¬ (((I 218 1) : Int) ≤ v0))) => ?_⟩
    ·
      exact ⟨rfl, fun hv hA' => hQ _ (hv _ rfl)⟩
    ·
      refine ⟨_, rfl, (by decide), ?_⟩
      refine fun w0 hw0 => ?_; obtain rfl : w0 = some 5 := hw0.symm.trans hx
      refine ⟨_, _, (by decide), rfl, (by decide), ?_⟩
      refine ⟨fun (c4 : ((64 : Int) ≤ v0)) => ?_, fun (c4 : (¬ ((64 : Int) ≤ v0))) => ?_⟩
      ·
        exact ⟨rfl, fun hv hA' => hQ _ (hv _ rfl)⟩
      ·
        refine ⟨_, rfl, (by decide), ?_⟩
        refine fun w0 hw0 => ?_; obtain rfl : w0 = some 5 := hw0.symm.trans hx
        refine ⟨_, rfl, (by decide), (show (0 : Int) ≤ v0 from by first | omega | (simp only [wr, wl] at *; omega)), (show v0 < (64 : Int) from by first | omega | (simp only [wr, wl] at *; omega)), ?_⟩
        exact ⟨rfl, fun hv hA' => hQ _ (hv _ rfl)⟩
theorem c_isLetter (hF : FS F) (hR : Rg I) {v0 : Int} (hx : F 218 0 = some 5) (hQ : ∀ r : Int, iR r → (0 ≤ r ∧ r ≤ 1) → Q (some (vi r)) F I) : CallN G (d + 1) kX9_isLetter [vr 218, vi v0] NP F I Q := by
  refine CallN_in (fun hok hA => CallN_out ?_)
  have iv0 : -2147483648 ≤ v0 ∧ v0 < 2147483648 := hok (vi v0) (by simp)
  refine Call_wp (lv := [some (vr 218), some (vi v0)]) (by decide) ckX9_isLetter [] rfl rfl ?_
  refine ⟨⟨_, rfl, (by decide)⟩, ?_⟩
  refine c_byteAt (v0 := v0) hF hR hx (fun vr1 hr2 => ?_)
  have hr2 : -2147483648 ≤ vr1 ∧ vr1 < 2147483648 := hr2
  refine s_X11_within (fun (w3 : ((97 : Int) ≤ vr1 ∧ (vr1 : Int) ≤ 122)) => ?_) (fun (w3 : ¬ ((97 : Int) ≤ vr1 ∧ (vr1 : Int) ≤ 122)) => ?_)
  ·
    exact ⟨rfl, (by decide), fun hv hA' => hQ _ (hv _ rfl) (show 0 ≤ 1 ∧ 1 ≤ 1 from by first | omega | (simp only [wr, wl] at *; omega))⟩
  ·
    exact ⟨rfl, (by decide), fun hv hA' => hQ _ (hv _ rfl) (show 0 ≤ 0 ∧ 0 ≤ 1 from by first | omega | (simp only [wr, wl] at *; omega))⟩
theorem c_isDigit (hF : FS F) (hR : Rg I) {v0 : Int} (hx : F 218 0 = some 5) (hQ : ∀ r : Int, iR r → (0 ≤ r ∧ r ≤ 1) → Q (some (vi r)) F I) : CallN G (d + 1) kX9_isDigit [vr 218, vi v0] NP F I Q := by
  refine CallN_in (fun hok hA => CallN_out ?_)
  have iv0 : -2147483648 ≤ v0 ∧ v0 < 2147483648 := hok (vi v0) (by simp)
  refine Call_wp (lv := [some (vr 218), some (vi v0)]) (by decide) ckX9_isDigit [] rfl rfl ?_
  refine ⟨⟨_, rfl, (by decide)⟩, ?_⟩
  refine c_byteAt (v0 := v0) hF hR hx (fun vr1 hr2 => ?_)
  have hr2 : -2147483648 ≤ vr1 ∧ vr1 < 2147483648 := hr2
  refine s_X11_within (fun (w3 : ((48 : Int) ≤ vr1 ∧ (vr1 : Int) ≤ 57)) => ?_) (fun (w3 : ¬ ((48 : Int) ≤ vr1 ∧ (vr1 : Int) ≤ 57)) => ?_)
  ·
    exact ⟨rfl, (by decide), fun hv hA' => hQ _ (hv _ rfl) (show 0 ≤ 1 ∧ 1 ≤ 1 from by first | omega | (simp only [wr, wl] at *; omega))⟩
  ·
    exact ⟨rfl, (by decide), fun hv hA' => hQ _ (hv _ rfl) (show 0 ≤ 0 ∧ 0 ≤ 1 from by first | omega | (simp only [wr, wl] at *; omega))⟩
theorem c_mark0 (hF : FS F) (hR : Rg I) (hx : F 218 0 = some 5) (hQ : ∀ r : Int, iR r → (0 ≤ r ∧ r ≤ 1) → Q (some (vi r)) F I) : CallN G (d + 4) kX9_isMark [vr 218, vr 4106] NP F I Q := by
  refine CallN_in (fun hok hA => CallN_out ?_)
  refine Call_wp (lv := [some (vr 218), some (vr 4106), none]) (by decide) ckX9_isMark [] rfl rfl ?_
  refine ⟨_, rfl, (by decide), ?_⟩
  refine ⟨_, rfl, (by decide), ?_⟩
  refine ⟨⟨0, (by decide), rfl⟩, ?_⟩
  refine Call_wp (lv := [some (vr 4106)]) (by decide) ckJ0_length_8abf5 [] rfl rfl ?_
  refine ⟨0, (by decide), rfl, ?_⟩
  refine Or.inr (Or.inr ⟨0, (by decide), rfl, ?_⟩)
  refine ⟨⟨0, (by decide), rfl⟩, ?_⟩
  refine Call_wp (lv := [some (vr 4106)]) (by decide) ckJ0_coder_7d493 [] rfl rfl ?_
  refine ⟨fun c => absurd c (show (¬ ((1 : Int) = 0)) from by decide), fun _ => ?_⟩
  refine ⟨0, (by decide), rfl, ?_⟩
  refine ⟨rfl, (by decide), ?_⟩
  refine ⟨rfl, ?_⟩
  have a1 : -2147483648 ≤ (I 218 3) ∧ (I 218 3) < 2147483648 := hA.1 _ _
  have a2 : -2147483648 ≤ (I 218 2) ∧ (I 218 2) < 2147483648 := hA.1 _ _
  have n3 : -2147483648 ≤ (wr ((I 218 3) - (I 218 2))) ∧ (wr ((I 218 3) - (I 218 2))) < 2147483648 := wr_R _
  refine ⟨fun (c4 : (((wr ((I 218 3) - (I 218 2))) : Int) = 4)) => ?_, fun (c4 : (¬ (((wr ((I 218 3) - (I 218 2))) : Int) = 4))) => ?_⟩
  ·
    refine ⟨⟨0, (by decide), rfl⟩, ?_⟩
    refine Call_wp (lv := [some (vr 4106)]) (by decide) ckJ0_length_8abf5 [] rfl rfl ?_
    refine ⟨0, (by decide), rfl, ?_⟩
    refine Or.inr (Or.inr ⟨0, (by decide), rfl, ?_⟩)
    refine ⟨⟨0, (by decide), rfl⟩, ?_⟩
    refine Call_wp (lv := [some (vr 4106)]) (by decide) ckJ0_coder_7d493 [] rfl rfl ?_
    refine ⟨fun c => absurd c (show (¬ ((1 : Int) = 0)) from by decide), fun _ => ?_⟩
    refine ⟨0, (by decide), rfl, ?_⟩
    refine ⟨rfl, (by decide), ?_⟩
    refine ⟨rfl, ?_⟩
    refine ⟨fun c => absurd c (show (¬ ((4 : Int) ≤ 0)) from by decide), fun _ => ?_⟩
    refine ⟨_, rfl, (by decide), ?_⟩
    refine ⟨⟨_, rfl, (by decide)⟩, ?_⟩
    have n5 : (wr ((I 218 2) + 0)) = (I 218 2) + 0 := wr_id (show -2147483648 ≤ ((I 218 2) + 0 : Int) ∧ ((I 218 2) + 0 : Int) < 2147483648 from by omega)
    refine c_byteAt (v0 := (wr ((I 218 2) + 0))) hF hR hx (fun vr6 hr7 => ?_)
    have hr7 : -2147483648 ≤ vr6 ∧ vr6 < 2147483648 := hr7
    refine ⟨⟨0, (by decide), rfl⟩, ?_⟩
    refine Call_wp (lv := [some (vr 4106), some (vi 0)]) (by decide) ckJ0_charAt_5068e [] rfl rfl ?_
    refine ⟨⟨0, (by decide), rfl⟩, ?_⟩
    refine Call_wp (lv := [some (vr 4106)]) (by decide) ckJ0_isLatin1_aae02 [] rfl rfl ?_
    refine ⟨fun c => absurd c (show (¬ ((1 : Int) = 0)) from by decide), fun _ => ?_⟩
    refine ⟨0, (by decide), rfl, ?_⟩
    refine ⟨fun c => absurd (show ((0 : Int) = 0) from by decide) c, fun _ => ?_⟩
    refine ⟨rfl, (by decide), ?_⟩
    refine ⟨fun c => absurd c (show (¬ ((1 : Int) = 0)) from by decide), fun _ => ?_⟩
    refine ⟨0, (by decide), rfl, ?_⟩
    refine Call_wp (lv := [some (vr 4136), some (vi 0)]) (by decide) ckJ1_charAt_3b067 [] rfl rfl ?_
    refine Or.inr (Or.inr ⟨0, (by decide), rfl, ?_⟩)
    refine j_check (i := 0) (n := 4) (by omega) ?_
    refine ⟨0, (by decide), rfl, (by decide), (by decide), ?_⟩
    refine ⟨rfl, (by decide), ?_⟩
    refine ⟨rfl, (by decide), ?_⟩
    refine ⟨fun (c8 : ((vr6 : Int) = 108)) => ?_, fun (c8 : (¬ ((vr6 : Int) = 108))) => ?_⟩
    ·
      refine ⟨⟨0, (by decide), rfl⟩, ?_⟩
      refine Call_wp (lv := [some (vr 4106)]) (by decide) ckJ0_length_8abf5 [] rfl rfl ?_
      refine ⟨0, (by decide), rfl, ?_⟩
      refine Or.inr (Or.inr ⟨0, (by decide), rfl, ?_⟩)
      refine ⟨⟨0, (by decide), rfl⟩, ?_⟩
      refine Call_wp (lv := [some (vr 4106)]) (by decide) ckJ0_coder_7d493 [] rfl rfl ?_
      refine ⟨fun c => absurd c (show (¬ ((1 : Int) = 0)) from by decide), fun _ => ?_⟩
      refine ⟨0, (by decide), rfl, ?_⟩
      refine ⟨rfl, (by decide), ?_⟩
      refine ⟨rfl, ?_⟩
      refine ⟨fun c => absurd c (show (¬ ((4 : Int) ≤ 1)) from by decide), fun _ => ?_⟩
      refine ⟨_, rfl, (by decide), ?_⟩
      refine ⟨⟨_, rfl, (by decide)⟩, ?_⟩
      have n9 : -2147483648 ≤ (wr ((I 218 2) + 1)) ∧ (wr ((I 218 2) + 1)) < 2147483648 := wr_R _
      refine c_byteAt (v0 := (wr ((I 218 2) + 1))) hF hR hx (fun vr10 hr11 => ?_)
      have hr11 : -2147483648 ≤ vr10 ∧ vr10 < 2147483648 := hr11
      refine ⟨⟨0, (by decide), rfl⟩, ?_⟩
      refine Call_wp (lv := [some (vr 4106), some (vi 1)]) (by decide) ckJ0_charAt_5068e [] rfl rfl ?_
      refine ⟨⟨0, (by decide), rfl⟩, ?_⟩
      refine Call_wp (lv := [some (vr 4106)]) (by decide) ckJ0_isLatin1_aae02 [] rfl rfl ?_
      refine ⟨fun c => absurd c (show (¬ ((1 : Int) = 0)) from by decide), fun _ => ?_⟩
      refine ⟨0, (by decide), rfl, ?_⟩
      refine ⟨fun c => absurd (show ((0 : Int) = 0) from by decide) c, fun _ => ?_⟩
      refine ⟨rfl, (by decide), ?_⟩
      refine ⟨fun c => absurd c (show (¬ ((1 : Int) = 0)) from by decide), fun _ => ?_⟩
      refine ⟨0, (by decide), rfl, ?_⟩
      refine Call_wp (lv := [some (vr 4136), some (vi 1)]) (by decide) ckJ1_charAt_3b067 [] rfl rfl ?_
      refine Or.inr (Or.inr ⟨0, (by decide), rfl, ?_⟩)
      refine j_check (i := 1) (n := 4) (by omega) ?_
      refine ⟨0, (by decide), rfl, (by decide), (by decide), ?_⟩
      refine ⟨rfl, (by decide), ?_⟩
      refine ⟨rfl, (by decide), ?_⟩
      refine ⟨fun (c12 : ((vr10 : Int) = 97)) => ?_, fun (c12 : (¬ ((vr10 : Int) = 97))) => ?_⟩
      ·
        refine ⟨⟨0, (by decide), rfl⟩, ?_⟩
        refine Call_wp (lv := [some (vr 4106)]) (by decide) ckJ0_length_8abf5 [] rfl rfl ?_
        refine ⟨0, (by decide), rfl, ?_⟩
        refine Or.inr (Or.inr ⟨0, (by decide), rfl, ?_⟩)
        refine ⟨⟨0, (by decide), rfl⟩, ?_⟩
        refine Call_wp (lv := [some (vr 4106)]) (by decide) ckJ0_coder_7d493 [] rfl rfl ?_
        refine ⟨fun c => absurd c (show (¬ ((1 : Int) = 0)) from by decide), fun _ => ?_⟩
        refine ⟨0, (by decide), rfl, ?_⟩
        refine ⟨rfl, (by decide), ?_⟩
        refine ⟨rfl, ?_⟩
        refine ⟨fun c => absurd c (show (¬ ((4 : Int) ≤ 2)) from by decide), fun _ => ?_⟩
        refine ⟨_, rfl, (by decide), ?_⟩
        refine ⟨⟨_, rfl, (by decide)⟩, ?_⟩
        have n13 : -2147483648 ≤ (wr ((I 218 2) + 2)) ∧ (wr ((I 218 2) + 2)) < 2147483648 := wr_R _
        refine c_byteAt (v0 := (wr ((I 218 2) + 2))) hF hR hx (fun vr14 hr15 => ?_)
        have hr15 : -2147483648 ≤ vr14 ∧ vr14 < 2147483648 := hr15
        refine ⟨⟨0, (by decide), rfl⟩, ?_⟩
        refine Call_wp (lv := [some (vr 4106), some (vi 2)]) (by decide) ckJ0_charAt_5068e [] rfl rfl ?_
        refine ⟨⟨0, (by decide), rfl⟩, ?_⟩
        refine Call_wp (lv := [some (vr 4106)]) (by decide) ckJ0_isLatin1_aae02 [] rfl rfl ?_
        refine ⟨fun c => absurd c (show (¬ ((1 : Int) = 0)) from by decide), fun _ => ?_⟩
        refine ⟨0, (by decide), rfl, ?_⟩
        refine ⟨fun c => absurd (show ((0 : Int) = 0) from by decide) c, fun _ => ?_⟩
        refine ⟨rfl, (by decide), ?_⟩
        refine ⟨fun c => absurd c (show (¬ ((1 : Int) = 0)) from by decide), fun _ => ?_⟩
        refine ⟨0, (by decide), rfl, ?_⟩
        refine Call_wp (lv := [some (vr 4136), some (vi 2)]) (by decide) ckJ1_charAt_3b067 [] rfl rfl ?_
        refine Or.inr (Or.inr ⟨0, (by decide), rfl, ?_⟩)
        refine j_check (i := 2) (n := 4) (by omega) ?_
        refine ⟨0, (by decide), rfl, (by decide), (by decide), ?_⟩
        refine ⟨rfl, (by decide), ?_⟩
        refine ⟨rfl, (by decide), ?_⟩
        refine ⟨fun (c16 : ((vr14 : Int) = 115)) => ?_, fun (c16 : (¬ ((vr14 : Int) = 115))) => ?_⟩
        ·
          refine ⟨⟨0, (by decide), rfl⟩, ?_⟩
          refine Call_wp (lv := [some (vr 4106)]) (by decide) ckJ0_length_8abf5 [] rfl rfl ?_
          refine ⟨0, (by decide), rfl, ?_⟩
          refine Or.inr (Or.inr ⟨0, (by decide), rfl, ?_⟩)
          refine ⟨⟨0, (by decide), rfl⟩, ?_⟩
          refine Call_wp (lv := [some (vr 4106)]) (by decide) ckJ0_coder_7d493 [] rfl rfl ?_
          refine ⟨fun c => absurd c (show (¬ ((1 : Int) = 0)) from by decide), fun _ => ?_⟩
          refine ⟨0, (by decide), rfl, ?_⟩
          refine ⟨rfl, (by decide), ?_⟩
          refine ⟨rfl, ?_⟩
          refine ⟨fun c => absurd c (show (¬ ((4 : Int) ≤ 3)) from by decide), fun _ => ?_⟩
          refine ⟨_, rfl, (by decide), ?_⟩
          refine ⟨⟨_, rfl, (by decide)⟩, ?_⟩
          have n17 : -2147483648 ≤ (wr ((I 218 2) + 3)) ∧ (wr ((I 218 2) + 3)) < 2147483648 := wr_R _
          refine c_byteAt (v0 := (wr ((I 218 2) + 3))) hF hR hx (fun vr18 hr19 => ?_)
          have hr19 : -2147483648 ≤ vr18 ∧ vr18 < 2147483648 := hr19
          refine ⟨⟨0, (by decide), rfl⟩, ?_⟩
          refine Call_wp (lv := [some (vr 4106), some (vi 3)]) (by decide) ckJ0_charAt_5068e [] rfl rfl ?_
          refine ⟨⟨0, (by decide), rfl⟩, ?_⟩
          refine Call_wp (lv := [some (vr 4106)]) (by decide) ckJ0_isLatin1_aae02 [] rfl rfl ?_
          refine ⟨fun c => absurd c (show (¬ ((1 : Int) = 0)) from by decide), fun _ => ?_⟩
          refine ⟨0, (by decide), rfl, ?_⟩
          refine ⟨fun c => absurd (show ((0 : Int) = 0) from by decide) c, fun _ => ?_⟩
          refine ⟨rfl, (by decide), ?_⟩
          refine ⟨fun c => absurd c (show (¬ ((1 : Int) = 0)) from by decide), fun _ => ?_⟩
          refine ⟨0, (by decide), rfl, ?_⟩
          refine Call_wp (lv := [some (vr 4136), some (vi 3)]) (by decide) ckJ1_charAt_3b067 [] rfl rfl ?_
          refine Or.inr (Or.inr ⟨0, (by decide), rfl, ?_⟩)
          refine j_check (i := 3) (n := 4) (by omega) ?_
          refine ⟨0, (by decide), rfl, (by decide), (by decide), ?_⟩
          refine ⟨rfl, (by decide), ?_⟩
          refine ⟨rfl, (by decide), ?_⟩
          refine ⟨fun (c20 : ((vr18 : Int) = 116)) => ?_, fun (c20 : (¬ ((vr18 : Int) = 116))) => ?_⟩
          ·
            refine ⟨⟨0, (by decide), rfl⟩, ?_⟩
            refine Call_wp (lv := [some (vr 4106)]) (by decide) ckJ0_length_8abf5 [] rfl rfl ?_
            refine ⟨0, (by decide), rfl, ?_⟩
            refine Or.inr (Or.inr ⟨0, (by decide), rfl, ?_⟩)
            refine ⟨⟨0, (by decide), rfl⟩, ?_⟩
            refine Call_wp (lv := [some (vr 4106)]) (by decide) ckJ0_coder_7d493 [] rfl rfl ?_
            refine ⟨fun c => absurd c (show (¬ ((1 : Int) = 0)) from by decide), fun _ => ?_⟩
            refine ⟨0, (by decide), rfl, ?_⟩
            refine ⟨rfl, (by decide), ?_⟩
            refine ⟨rfl, ?_⟩
            refine ⟨fun _ => ?_, fun c => absurd (show ((4 : Int) ≤ 4) from by decide) c⟩
            exact ⟨rfl, (by decide), fun hv hA' => hQ _ (hv _ rfl) (show 0 ≤ 1 ∧ 1 ≤ 1 from by first | omega | (simp only [wr, wl] at *; omega))⟩
          ·
            exact ⟨rfl, (by decide), fun hv hA' => hQ _ (hv _ rfl) (show 0 ≤ 0 ∧ 0 ≤ 1 from by first | omega | (simp only [wr, wl] at *; omega))⟩
        ·
          exact ⟨rfl, (by decide), fun hv hA' => hQ _ (hv _ rfl) (show 0 ≤ 0 ∧ 0 ≤ 1 from by first | omega | (simp only [wr, wl] at *; omega))⟩
      ·
        exact ⟨rfl, (by decide), fun hv hA' => hQ _ (hv _ rfl) (show 0 ≤ 0 ∧ 0 ≤ 1 from by first | omega | (simp only [wr, wl] at *; omega))⟩
    ·
      exact ⟨rfl, (by decide), fun hv hA' => hQ _ (hv _ rfl) (show 0 ≤ 0 ∧ 0 ≤ 1 from by first | omega | (simp only [wr, wl] at *; omega))⟩
  ·
    exact ⟨rfl, (by decide), fun hv hA' => hQ _ (hv _ rfl) (show 0 ≤ 0 ∧ 0 ≤ 1 from by first | omega | (simp only [wr, wl] at *; omega))⟩
theorem c_mark1 (hF : FS F) (hR : Rg I) (hx : F 218 0 = some 5) (hQ : ∀ r : Int, iR r → (0 ≤ r ∧ r ≤ 1) → Q (some (vi r)) F I) : CallN G (d + 4) kX9_isMark [vr 218, vr 4107] NP F I Q := by
  refine CallN_in (fun hok hA => CallN_out ?_)
  refine Call_wp (lv := [some (vr 218), some (vr 4107), none]) (by decide) ckX9_isMark [] rfl rfl ?_
  refine ⟨_, rfl, (by decide), ?_⟩
  refine ⟨_, rfl, (by decide), ?_⟩
  refine ⟨⟨1, (by decide), rfl⟩, ?_⟩
  refine Call_wp (lv := [some (vr 4107)]) (by decide) ckJ0_length_8abf5 [] rfl rfl ?_
  refine ⟨1, (by decide), rfl, ?_⟩
  refine Or.inr (Or.inr ⟨1, (by decide), rfl, ?_⟩)
  refine ⟨⟨1, (by decide), rfl⟩, ?_⟩
  refine Call_wp (lv := [some (vr 4107)]) (by decide) ckJ0_coder_7d493 [] rfl rfl ?_
  refine ⟨fun c => absurd c (show (¬ ((1 : Int) = 0)) from by decide), fun _ => ?_⟩
  refine ⟨1, (by decide), rfl, ?_⟩
  refine ⟨rfl, (by decide), ?_⟩
  refine ⟨rfl, ?_⟩
  have a1 : -2147483648 ≤ (I 218 3) ∧ (I 218 3) < 2147483648 := hA.1 _ _
  have a2 : -2147483648 ≤ (I 218 2) ∧ (I 218 2) < 2147483648 := hA.1 _ _
  have n3 : -2147483648 ≤ (wr ((I 218 3) - (I 218 2))) ∧ (wr ((I 218 3) - (I 218 2))) < 2147483648 := wr_R _
  refine ⟨fun (c4 : (((wr ((I 218 3) - (I 218 2))) : Int) = 2)) => ?_, fun (c4 : (¬ (((wr ((I 218 3) - (I 218 2))) : Int) = 2))) => ?_⟩
  ·
    refine ⟨⟨1, (by decide), rfl⟩, ?_⟩
    refine Call_wp (lv := [some (vr 4107)]) (by decide) ckJ0_length_8abf5 [] rfl rfl ?_
    refine ⟨1, (by decide), rfl, ?_⟩
    refine Or.inr (Or.inr ⟨1, (by decide), rfl, ?_⟩)
    refine ⟨⟨1, (by decide), rfl⟩, ?_⟩
    refine Call_wp (lv := [some (vr 4107)]) (by decide) ckJ0_coder_7d493 [] rfl rfl ?_
    refine ⟨fun c => absurd c (show (¬ ((1 : Int) = 0)) from by decide), fun _ => ?_⟩
    refine ⟨1, (by decide), rfl, ?_⟩
    refine ⟨rfl, (by decide), ?_⟩
    refine ⟨rfl, ?_⟩
    refine ⟨fun c => absurd c (show (¬ ((2 : Int) ≤ 0)) from by decide), fun _ => ?_⟩
    refine ⟨_, rfl, (by decide), ?_⟩
    refine ⟨⟨_, rfl, (by decide)⟩, ?_⟩
    have n5 : (wr ((I 218 2) + 0)) = (I 218 2) + 0 := wr_id (show -2147483648 ≤ ((I 218 2) + 0 : Int) ∧ ((I 218 2) + 0 : Int) < 2147483648 from by omega)
    refine c_byteAt (v0 := (wr ((I 218 2) + 0))) hF hR hx (fun vr6 hr7 => ?_)
    have hr7 : -2147483648 ≤ vr6 ∧ vr6 < 2147483648 := hr7
    refine ⟨⟨1, (by decide), rfl⟩, ?_⟩
    refine Call_wp (lv := [some (vr 4107), some (vi 0)]) (by decide) ckJ0_charAt_5068e [] rfl rfl ?_
    refine ⟨⟨1, (by decide), rfl⟩, ?_⟩
    refine Call_wp (lv := [some (vr 4107)]) (by decide) ckJ0_isLatin1_aae02 [] rfl rfl ?_
    refine ⟨fun c => absurd c (show (¬ ((1 : Int) = 0)) from by decide), fun _ => ?_⟩
    refine ⟨1, (by decide), rfl, ?_⟩
    refine ⟨fun c => absurd (show ((0 : Int) = 0) from by decide) c, fun _ => ?_⟩
    refine ⟨rfl, (by decide), ?_⟩
    refine ⟨fun c => absurd c (show (¬ ((1 : Int) = 0)) from by decide), fun _ => ?_⟩
    refine ⟨1, (by decide), rfl, ?_⟩
    refine Call_wp (lv := [some (vr 4137), some (vi 0)]) (by decide) ckJ1_charAt_3b067 [] rfl rfl ?_
    refine Or.inr (Or.inr ⟨1, (by decide), rfl, ?_⟩)
    refine j_check (i := 0) (n := 2) (by omega) ?_
    refine ⟨1, (by decide), rfl, (by decide), (by decide), ?_⟩
    refine ⟨rfl, (by decide), ?_⟩
    refine ⟨rfl, (by decide), ?_⟩
    refine ⟨fun (c8 : ((vr6 : Int) = 103)) => ?_, fun (c8 : (¬ ((vr6 : Int) = 103))) => ?_⟩
    ·
      refine ⟨⟨1, (by decide), rfl⟩, ?_⟩
      refine Call_wp (lv := [some (vr 4107)]) (by decide) ckJ0_length_8abf5 [] rfl rfl ?_
      refine ⟨1, (by decide), rfl, ?_⟩
      refine Or.inr (Or.inr ⟨1, (by decide), rfl, ?_⟩)
      refine ⟨⟨1, (by decide), rfl⟩, ?_⟩
      refine Call_wp (lv := [some (vr 4107)]) (by decide) ckJ0_coder_7d493 [] rfl rfl ?_
      refine ⟨fun c => absurd c (show (¬ ((1 : Int) = 0)) from by decide), fun _ => ?_⟩
      refine ⟨1, (by decide), rfl, ?_⟩
      refine ⟨rfl, (by decide), ?_⟩
      refine ⟨rfl, ?_⟩
      refine ⟨fun c => absurd c (show (¬ ((2 : Int) ≤ 1)) from by decide), fun _ => ?_⟩
      refine ⟨_, rfl, (by decide), ?_⟩
      refine ⟨⟨_, rfl, (by decide)⟩, ?_⟩
      have n9 : -2147483648 ≤ (wr ((I 218 2) + 1)) ∧ (wr ((I 218 2) + 1)) < 2147483648 := wr_R _
      refine c_byteAt (v0 := (wr ((I 218 2) + 1))) hF hR hx (fun vr10 hr11 => ?_)
      have hr11 : -2147483648 ≤ vr10 ∧ vr10 < 2147483648 := hr11
      refine ⟨⟨1, (by decide), rfl⟩, ?_⟩
      refine Call_wp (lv := [some (vr 4107), some (vi 1)]) (by decide) ckJ0_charAt_5068e [] rfl rfl ?_
      refine ⟨⟨1, (by decide), rfl⟩, ?_⟩
      refine Call_wp (lv := [some (vr 4107)]) (by decide) ckJ0_isLatin1_aae02 [] rfl rfl ?_
      refine ⟨fun c => absurd c (show (¬ ((1 : Int) = 0)) from by decide), fun _ => ?_⟩
      refine ⟨1, (by decide), rfl, ?_⟩
      refine ⟨fun c => absurd (show ((0 : Int) = 0) from by decide) c, fun _ => ?_⟩
      refine ⟨rfl, (by decide), ?_⟩
      refine ⟨fun c => absurd c (show (¬ ((1 : Int) = 0)) from by decide), fun _ => ?_⟩
      refine ⟨1, (by decide), rfl, ?_⟩
      refine Call_wp (lv := [some (vr 4137), some (vi 1)]) (by decide) ckJ1_charAt_3b067 [] rfl rfl ?_
      refine Or.inr (Or.inr ⟨1, (by decide), rfl, ?_⟩)
      refine j_check (i := 1) (n := 2) (by omega) ?_
      refine ⟨1, (by decide), rfl, (by decide), (by decide), ?_⟩
      refine ⟨rfl, (by decide), ?_⟩
      refine ⟨rfl, (by decide), ?_⟩
      refine ⟨fun (c12 : ((vr10 : Int) = 111)) => ?_, fun (c12 : (¬ ((vr10 : Int) = 111))) => ?_⟩
      ·
        refine ⟨⟨1, (by decide), rfl⟩, ?_⟩
        refine Call_wp (lv := [some (vr 4107)]) (by decide) ckJ0_length_8abf5 [] rfl rfl ?_
        refine ⟨1, (by decide), rfl, ?_⟩
        refine Or.inr (Or.inr ⟨1, (by decide), rfl, ?_⟩)
        refine ⟨⟨1, (by decide), rfl⟩, ?_⟩
        refine Call_wp (lv := [some (vr 4107)]) (by decide) ckJ0_coder_7d493 [] rfl rfl ?_
        refine ⟨fun c => absurd c (show (¬ ((1 : Int) = 0)) from by decide), fun _ => ?_⟩
        refine ⟨1, (by decide), rfl, ?_⟩
        refine ⟨rfl, (by decide), ?_⟩
        refine ⟨rfl, ?_⟩
        refine ⟨fun _ => ?_, fun c => absurd (show ((2 : Int) ≤ 2) from by decide) c⟩
        exact ⟨rfl, (by decide), fun hv hA' => hQ _ (hv _ rfl) (show 0 ≤ 1 ∧ 1 ≤ 1 from by first | omega | (simp only [wr, wl] at *; omega))⟩
      ·
        exact ⟨rfl, (by decide), fun hv hA' => hQ _ (hv _ rfl) (show 0 ≤ 0 ∧ 0 ≤ 1 from by first | omega | (simp only [wr, wl] at *; omega))⟩
    ·
      exact ⟨rfl, (by decide), fun hv hA' => hQ _ (hv _ rfl) (show 0 ≤ 0 ∧ 0 ≤ 1 from by first | omega | (simp only [wr, wl] at *; omega))⟩
  ·
    exact ⟨rfl, (by decide), fun hv hA' => hQ _ (hv _ rfl) (show 0 ≤ 0 ∧ 0 ≤ 1 from by first | omega | (simp only [wr, wl] at *; omega))⟩
theorem c_mark2 (hF : FS F) (hR : Rg I) (hx : F 218 0 = some 5) (hQ : ∀ r : Int, iR r → (0 ≤ r ∧ r ≤ 1) → Q (some (vi r)) F I) : CallN G (d + 4) kX9_isMark [vr 218, vr 4108] NP F I Q := by
  refine CallN_in (fun hok hA => CallN_out ?_)
  refine Call_wp (lv := [some (vr 218), some (vr 4108), none]) (by decide) ckX9_isMark [] rfl rfl ?_
  refine ⟨_, rfl, (by decide), ?_⟩
  refine ⟨_, rfl, (by decide), ?_⟩
  refine ⟨⟨2, (by decide), rfl⟩, ?_⟩
  refine Call_wp (lv := [some (vr 4108)]) (by decide) ckJ0_length_8abf5 [] rfl rfl ?_
  refine ⟨2, (by decide), rfl, ?_⟩
  refine Or.inr (Or.inr ⟨2, (by decide), rfl, ?_⟩)
  refine ⟨⟨2, (by decide), rfl⟩, ?_⟩
  refine Call_wp (lv := [some (vr 4108)]) (by decide) ckJ0_coder_7d493 [] rfl rfl ?_
  refine ⟨fun c => absurd c (show (¬ ((1 : Int) = 0)) from by decide), fun _ => ?_⟩
  refine ⟨2, (by decide), rfl, ?_⟩
  refine ⟨rfl, (by decide), ?_⟩
  refine ⟨rfl, ?_⟩
  have a1 : -2147483648 ≤ (I 218 3) ∧ (I 218 3) < 2147483648 := hA.1 _ _
  have a2 : -2147483648 ≤ (I 218 2) ∧ (I 218 2) < 2147483648 := hA.1 _ _
  have n3 : -2147483648 ≤ (wr ((I 218 3) - (I 218 2))) ∧ (wr ((I 218 3) - (I 218 2))) < 2147483648 := wr_R _
  refine ⟨fun (c4 : (((wr ((I 218 3) - (I 218 2))) : Int) = 4)) => ?_, fun (c4 : (¬ (((wr ((I 218 3) - (I 218 2))) : Int) = 4))) => ?_⟩
  ·
    refine ⟨⟨2, (by decide), rfl⟩, ?_⟩
    refine Call_wp (lv := [some (vr 4108)]) (by decide) ckJ0_length_8abf5 [] rfl rfl ?_
    refine ⟨2, (by decide), rfl, ?_⟩
    refine Or.inr (Or.inr ⟨2, (by decide), rfl, ?_⟩)
    refine ⟨⟨2, (by decide), rfl⟩, ?_⟩
    refine Call_wp (lv := [some (vr 4108)]) (by decide) ckJ0_coder_7d493 [] rfl rfl ?_
    refine ⟨fun c => absurd c (show (¬ ((1 : Int) = 0)) from by decide), fun _ => ?_⟩
    refine ⟨2, (by decide), rfl, ?_⟩
    refine ⟨rfl, (by decide), ?_⟩
    refine ⟨rfl, ?_⟩
    refine ⟨fun c => absurd c (show (¬ ((4 : Int) ≤ 0)) from by decide), fun _ => ?_⟩
    refine ⟨_, rfl, (by decide), ?_⟩
    refine ⟨⟨_, rfl, (by decide)⟩, ?_⟩
    have n5 : (wr ((I 218 2) + 0)) = (I 218 2) + 0 := wr_id (show -2147483648 ≤ ((I 218 2) + 0 : Int) ∧ ((I 218 2) + 0 : Int) < 2147483648 from by omega)
    refine c_byteAt (v0 := (wr ((I 218 2) + 0))) hF hR hx (fun vr6 hr7 => ?_)
    have hr7 : -2147483648 ≤ vr6 ∧ vr6 < 2147483648 := hr7
    refine ⟨⟨2, (by decide), rfl⟩, ?_⟩
    refine Call_wp (lv := [some (vr 4108), some (vi 0)]) (by decide) ckJ0_charAt_5068e [] rfl rfl ?_
    refine ⟨⟨2, (by decide), rfl⟩, ?_⟩
    refine Call_wp (lv := [some (vr 4108)]) (by decide) ckJ0_isLatin1_aae02 [] rfl rfl ?_
    refine ⟨fun c => absurd c (show (¬ ((1 : Int) = 0)) from by decide), fun _ => ?_⟩
    refine ⟨2, (by decide), rfl, ?_⟩
    refine ⟨fun c => absurd (show ((0 : Int) = 0) from by decide) c, fun _ => ?_⟩
    refine ⟨rfl, (by decide), ?_⟩
    refine ⟨fun c => absurd c (show (¬ ((1 : Int) = 0)) from by decide), fun _ => ?_⟩
    refine ⟨2, (by decide), rfl, ?_⟩
    refine Call_wp (lv := [some (vr 4138), some (vi 0)]) (by decide) ckJ1_charAt_3b067 [] rfl rfl ?_
    refine Or.inr (Or.inr ⟨2, (by decide), rfl, ?_⟩)
    refine j_check (i := 0) (n := 4) (by omega) ?_
    refine ⟨2, (by decide), rfl, (by decide), (by decide), ?_⟩
    refine ⟨rfl, (by decide), ?_⟩
    refine ⟨rfl, (by decide), ?_⟩
    refine ⟨fun (c8 : ((vr6 : Int) = 108)) => ?_, fun (c8 : (¬ ((vr6 : Int) = 108))) => ?_⟩
    ·
      refine ⟨⟨2, (by decide), rfl⟩, ?_⟩
      refine Call_wp (lv := [some (vr 4108)]) (by decide) ckJ0_length_8abf5 [] rfl rfl ?_
      refine ⟨2, (by decide), rfl, ?_⟩
      refine Or.inr (Or.inr ⟨2, (by decide), rfl, ?_⟩)
      refine ⟨⟨2, (by decide), rfl⟩, ?_⟩
      refine Call_wp (lv := [some (vr 4108)]) (by decide) ckJ0_coder_7d493 [] rfl rfl ?_
      refine ⟨fun c => absurd c (show (¬ ((1 : Int) = 0)) from by decide), fun _ => ?_⟩
      refine ⟨2, (by decide), rfl, ?_⟩
      refine ⟨rfl, (by decide), ?_⟩
      refine ⟨rfl, ?_⟩
      refine ⟨fun c => absurd c (show (¬ ((4 : Int) ≤ 1)) from by decide), fun _ => ?_⟩
      refine ⟨_, rfl, (by decide), ?_⟩
      refine ⟨⟨_, rfl, (by decide)⟩, ?_⟩
      have n9 : -2147483648 ≤ (wr ((I 218 2) + 1)) ∧ (wr ((I 218 2) + 1)) < 2147483648 := wr_R _
      refine c_byteAt (v0 := (wr ((I 218 2) + 1))) hF hR hx (fun vr10 hr11 => ?_)
      have hr11 : -2147483648 ≤ vr10 ∧ vr10 < 2147483648 := hr11
      refine ⟨⟨2, (by decide), rfl⟩, ?_⟩
      refine Call_wp (lv := [some (vr 4108), some (vi 1)]) (by decide) ckJ0_charAt_5068e [] rfl rfl ?_
      refine ⟨⟨2, (by decide), rfl⟩, ?_⟩
      refine Call_wp (lv := [some (vr 4108)]) (by decide) ckJ0_isLatin1_aae02 [] rfl rfl ?_
      refine ⟨fun c => absurd c (show (¬ ((1 : Int) = 0)) from by decide), fun _ => ?_⟩
      refine ⟨2, (by decide), rfl, ?_⟩
      refine ⟨fun c => absurd (show ((0 : Int) = 0) from by decide) c, fun _ => ?_⟩
      refine ⟨rfl, (by decide), ?_⟩
      refine ⟨fun c => absurd c (show (¬ ((1 : Int) = 0)) from by decide), fun _ => ?_⟩
      refine ⟨2, (by decide), rfl, ?_⟩
      refine Call_wp (lv := [some (vr 4138), some (vi 1)]) (by decide) ckJ1_charAt_3b067 [] rfl rfl ?_
      refine Or.inr (Or.inr ⟨2, (by decide), rfl, ?_⟩)
      refine j_check (i := 1) (n := 4) (by omega) ?_
      refine ⟨2, (by decide), rfl, (by decide), (by decide), ?_⟩
      refine ⟨rfl, (by decide), ?_⟩
      refine ⟨rfl, (by decide), ?_⟩
      refine ⟨fun (c12 : ((vr10 : Int) = 111)) => ?_, fun (c12 : (¬ ((vr10 : Int) = 111))) => ?_⟩
      ·
        refine ⟨⟨2, (by decide), rfl⟩, ?_⟩
        refine Call_wp (lv := [some (vr 4108)]) (by decide) ckJ0_length_8abf5 [] rfl rfl ?_
        refine ⟨2, (by decide), rfl, ?_⟩
        refine Or.inr (Or.inr ⟨2, (by decide), rfl, ?_⟩)
        refine ⟨⟨2, (by decide), rfl⟩, ?_⟩
        refine Call_wp (lv := [some (vr 4108)]) (by decide) ckJ0_coder_7d493 [] rfl rfl ?_
        refine ⟨fun c => absurd c (show (¬ ((1 : Int) = 0)) from by decide), fun _ => ?_⟩
        refine ⟨2, (by decide), rfl, ?_⟩
        refine ⟨rfl, (by decide), ?_⟩
        refine ⟨rfl, ?_⟩
        refine ⟨fun c => absurd c (show (¬ ((4 : Int) ≤ 2)) from by decide), fun _ => ?_⟩
        refine ⟨_, rfl, (by decide), ?_⟩
        refine ⟨⟨_, rfl, (by decide)⟩, ?_⟩
        have n13 : -2147483648 ≤ (wr ((I 218 2) + 2)) ∧ (wr ((I 218 2) + 2)) < 2147483648 := wr_R _
        refine c_byteAt (v0 := (wr ((I 218 2) + 2))) hF hR hx (fun vr14 hr15 => ?_)
        have hr15 : -2147483648 ≤ vr14 ∧ vr14 < 2147483648 := hr15
        refine ⟨⟨2, (by decide), rfl⟩, ?_⟩
        refine Call_wp (lv := [some (vr 4108), some (vi 2)]) (by decide) ckJ0_charAt_5068e [] rfl rfl ?_
        refine ⟨⟨2, (by decide), rfl⟩, ?_⟩
        refine Call_wp (lv := [some (vr 4108)]) (by decide) ckJ0_isLatin1_aae02 [] rfl rfl ?_
        refine ⟨fun c => absurd c (show (¬ ((1 : Int) = 0)) from by decide), fun _ => ?_⟩
        refine ⟨2, (by decide), rfl, ?_⟩
        refine ⟨fun c => absurd (show ((0 : Int) = 0) from by decide) c, fun _ => ?_⟩
        refine ⟨rfl, (by decide), ?_⟩
        refine ⟨fun c => absurd c (show (¬ ((1 : Int) = 0)) from by decide), fun _ => ?_⟩
        refine ⟨2, (by decide), rfl, ?_⟩
        refine Call_wp (lv := [some (vr 4138), some (vi 2)]) (by decide) ckJ1_charAt_3b067 [] rfl rfl ?_
        refine Or.inr (Or.inr ⟨2, (by decide), rfl, ?_⟩)
        refine j_check (i := 2) (n := 4) (by omega) ?_
        refine ⟨2, (by decide), rfl, (by decide), (by decide), ?_⟩
        refine ⟨rfl, (by decide), ?_⟩
        refine ⟨rfl, (by decide), ?_⟩
        refine ⟨fun (c16 : ((vr14 : Int) = 97)) => ?_, fun (c16 : (¬ ((vr14 : Int) = 97))) => ?_⟩
        ·
          refine ⟨⟨2, (by decide), rfl⟩, ?_⟩
          refine Call_wp (lv := [some (vr 4108)]) (by decide) ckJ0_length_8abf5 [] rfl rfl ?_
          refine ⟨2, (by decide), rfl, ?_⟩
          refine Or.inr (Or.inr ⟨2, (by decide), rfl, ?_⟩)
          refine ⟨⟨2, (by decide), rfl⟩, ?_⟩
          refine Call_wp (lv := [some (vr 4108)]) (by decide) ckJ0_coder_7d493 [] rfl rfl ?_
          refine ⟨fun c => absurd c (show (¬ ((1 : Int) = 0)) from by decide), fun _ => ?_⟩
          refine ⟨2, (by decide), rfl, ?_⟩
          refine ⟨rfl, (by decide), ?_⟩
          refine ⟨rfl, ?_⟩
          refine ⟨fun c => absurd c (show (¬ ((4 : Int) ≤ 3)) from by decide), fun _ => ?_⟩
          refine ⟨_, rfl, (by decide), ?_⟩
          refine ⟨⟨_, rfl, (by decide)⟩, ?_⟩
          have n17 : -2147483648 ≤ (wr ((I 218 2) + 3)) ∧ (wr ((I 218 2) + 3)) < 2147483648 := wr_R _
          refine c_byteAt (v0 := (wr ((I 218 2) + 3))) hF hR hx (fun vr18 hr19 => ?_)
          have hr19 : -2147483648 ≤ vr18 ∧ vr18 < 2147483648 := hr19
          refine ⟨⟨2, (by decide), rfl⟩, ?_⟩
          refine Call_wp (lv := [some (vr 4108), some (vi 3)]) (by decide) ckJ0_charAt_5068e [] rfl rfl ?_
          refine ⟨⟨2, (by decide), rfl⟩, ?_⟩
          refine Call_wp (lv := [some (vr 4108)]) (by decide) ckJ0_isLatin1_aae02 [] rfl rfl ?_
          refine ⟨fun c => absurd c (show (¬ ((1 : Int) = 0)) from by decide), fun _ => ?_⟩
          refine ⟨2, (by decide), rfl, ?_⟩
          refine ⟨fun c => absurd (show ((0 : Int) = 0) from by decide) c, fun _ => ?_⟩
          refine ⟨rfl, (by decide), ?_⟩
          refine ⟨fun c => absurd c (show (¬ ((1 : Int) = 0)) from by decide), fun _ => ?_⟩
          refine ⟨2, (by decide), rfl, ?_⟩
          refine Call_wp (lv := [some (vr 4138), some (vi 3)]) (by decide) ckJ1_charAt_3b067 [] rfl rfl ?_
          refine Or.inr (Or.inr ⟨2, (by decide), rfl, ?_⟩)
          refine j_check (i := 3) (n := 4) (by omega) ?_
          refine ⟨2, (by decide), rfl, (by decide), (by decide), ?_⟩
          refine ⟨rfl, (by decide), ?_⟩
          refine ⟨rfl, (by decide), ?_⟩
          refine ⟨fun (c20 : ((vr18 : Int) = 100)) => ?_, fun (c20 : (¬ ((vr18 : Int) = 100))) => ?_⟩
          ·
            refine ⟨⟨2, (by decide), rfl⟩, ?_⟩
            refine Call_wp (lv := [some (vr 4108)]) (by decide) ckJ0_length_8abf5 [] rfl rfl ?_
            refine ⟨2, (by decide), rfl, ?_⟩
            refine Or.inr (Or.inr ⟨2, (by decide), rfl, ?_⟩)
            refine ⟨⟨2, (by decide), rfl⟩, ?_⟩
            refine Call_wp (lv := [some (vr 4108)]) (by decide) ckJ0_coder_7d493 [] rfl rfl ?_
            refine ⟨fun c => absurd c (show (¬ ((1 : Int) = 0)) from by decide), fun _ => ?_⟩
            refine ⟨2, (by decide), rfl, ?_⟩
            refine ⟨rfl, (by decide), ?_⟩
            refine ⟨rfl, ?_⟩
            refine ⟨fun _ => ?_, fun c => absurd (show ((4 : Int) ≤ 4) from by decide) c⟩
            exact ⟨rfl, (by decide), fun hv hA' => hQ _ (hv _ rfl) (show 0 ≤ 1 ∧ 1 ≤ 1 from by first | omega | (simp only [wr, wl] at *; omega))⟩
          ·
            exact ⟨rfl, (by decide), fun hv hA' => hQ _ (hv _ rfl) (show 0 ≤ 0 ∧ 0 ≤ 1 from by first | omega | (simp only [wr, wl] at *; omega))⟩
        ·
          exact ⟨rfl, (by decide), fun hv hA' => hQ _ (hv _ rfl) (show 0 ≤ 0 ∧ 0 ≤ 1 from by first | omega | (simp only [wr, wl] at *; omega))⟩
      ·
        exact ⟨rfl, (by decide), fun hv hA' => hQ _ (hv _ rfl) (show 0 ≤ 0 ∧ 0 ≤ 1 from by first | omega | (simp only [wr, wl] at *; omega))⟩
    ·
      exact ⟨rfl, (by decide), fun hv hA' => hQ _ (hv _ rfl) (show 0 ≤ 0 ∧ 0 ≤ 1 from by first | omega | (simp only [wr, wl] at *; omega))⟩
  ·
    exact ⟨rfl, (by decide), fun hv hA' => hQ _ (hv _ rfl) (show 0 ≤ 0 ∧ 0 ≤ 1 from by first | omega | (simp only [wr, wl] at *; omega))⟩
theorem c_mark3 (hF : FS F) (hR : Rg I) (hx : F 218 0 = some 5) (hQ : ∀ r : Int, iR r → (0 ≤ r ∧ r ≤ 1) → Q (some (vi r)) F I) : CallN G (d + 4) kX9_isMark [vr 218, vr 4109] NP F I Q := by
  refine CallN_in (fun hok hA => CallN_out ?_)
  refine Call_wp (lv := [some (vr 218), some (vr 4109), none]) (by decide) ckX9_isMark [] rfl rfl ?_
  refine ⟨_, rfl, (by decide), ?_⟩
  refine ⟨_, rfl, (by decide), ?_⟩
  refine ⟨⟨3, (by decide), rfl⟩, ?_⟩
  refine Call_wp (lv := [some (vr 4109)]) (by decide) ckJ0_length_8abf5 [] rfl rfl ?_
  refine ⟨3, (by decide), rfl, ?_⟩
  refine Or.inr (Or.inr ⟨3, (by decide), rfl, ?_⟩)
  refine ⟨⟨3, (by decide), rfl⟩, ?_⟩
  refine Call_wp (lv := [some (vr 4109)]) (by decide) ckJ0_coder_7d493 [] rfl rfl ?_
  refine ⟨fun c => absurd c (show (¬ ((1 : Int) = 0)) from by decide), fun _ => ?_⟩
  refine ⟨3, (by decide), rfl, ?_⟩
  refine ⟨rfl, (by decide), ?_⟩
  refine ⟨rfl, ?_⟩
  have a1 : -2147483648 ≤ (I 218 3) ∧ (I 218 3) < 2147483648 := hA.1 _ _
  have a2 : -2147483648 ≤ (I 218 2) ∧ (I 218 2) < 2147483648 := hA.1 _ _
  have n3 : -2147483648 ≤ (wr ((I 218 3) - (I 218 2))) ∧ (wr ((I 218 3) - (I 218 2))) < 2147483648 := wr_R _
  refine ⟨fun (c4 : (((wr ((I 218 3) - (I 218 2))) : Int) = 4)) => ?_, fun (c4 : (¬ (((wr ((I 218 3) - (I 218 2))) : Int) = 4))) => ?_⟩
  ·
    refine ⟨⟨3, (by decide), rfl⟩, ?_⟩
    refine Call_wp (lv := [some (vr 4109)]) (by decide) ckJ0_length_8abf5 [] rfl rfl ?_
    refine ⟨3, (by decide), rfl, ?_⟩
    refine Or.inr (Or.inr ⟨3, (by decide), rfl, ?_⟩)
    refine ⟨⟨3, (by decide), rfl⟩, ?_⟩
    refine Call_wp (lv := [some (vr 4109)]) (by decide) ckJ0_coder_7d493 [] rfl rfl ?_
    refine ⟨fun c => absurd c (show (¬ ((1 : Int) = 0)) from by decide), fun _ => ?_⟩
    refine ⟨3, (by decide), rfl, ?_⟩
    refine ⟨rfl, (by decide), ?_⟩
    refine ⟨rfl, ?_⟩
    refine ⟨fun c => absurd c (show (¬ ((4 : Int) ≤ 0)) from by decide), fun _ => ?_⟩
    refine ⟨_, rfl, (by decide), ?_⟩
    refine ⟨⟨_, rfl, (by decide)⟩, ?_⟩
    have n5 : (wr ((I 218 2) + 0)) = (I 218 2) + 0 := wr_id (show -2147483648 ≤ ((I 218 2) + 0 : Int) ∧ ((I 218 2) + 0 : Int) < 2147483648 from by omega)
    refine c_byteAt (v0 := (wr ((I 218 2) + 0))) hF hR hx (fun vr6 hr7 => ?_)
    have hr7 : -2147483648 ≤ vr6 ∧ vr6 < 2147483648 := hr7
    refine ⟨⟨3, (by decide), rfl⟩, ?_⟩
    refine Call_wp (lv := [some (vr 4109), some (vi 0)]) (by decide) ckJ0_charAt_5068e [] rfl rfl ?_
    refine ⟨⟨3, (by decide), rfl⟩, ?_⟩
    refine Call_wp (lv := [some (vr 4109)]) (by decide) ckJ0_isLatin1_aae02 [] rfl rfl ?_
    refine ⟨fun c => absurd c (show (¬ ((1 : Int) = 0)) from by decide), fun _ => ?_⟩
    refine ⟨3, (by decide), rfl, ?_⟩
    refine ⟨fun c => absurd (show ((0 : Int) = 0) from by decide) c, fun _ => ?_⟩
    refine ⟨rfl, (by decide), ?_⟩
    refine ⟨fun c => absurd c (show (¬ ((1 : Int) = 0)) from by decide), fun _ => ?_⟩
    refine ⟨3, (by decide), rfl, ?_⟩
    refine Call_wp (lv := [some (vr 4139), some (vi 0)]) (by decide) ckJ1_charAt_3b067 [] rfl rfl ?_
    refine Or.inr (Or.inr ⟨3, (by decide), rfl, ?_⟩)
    refine j_check (i := 0) (n := 4) (by omega) ?_
    refine ⟨3, (by decide), rfl, (by decide), (by decide), ?_⟩
    refine ⟨rfl, (by decide), ?_⟩
    refine ⟨rfl, (by decide), ?_⟩
    refine ⟨fun (c8 : ((vr6 : Int) = 104)) => ?_, fun (c8 : (¬ ((vr6 : Int) = 104))) => ?_⟩
    ·
      refine ⟨⟨3, (by decide), rfl⟩, ?_⟩
      refine Call_wp (lv := [some (vr 4109)]) (by decide) ckJ0_length_8abf5 [] rfl rfl ?_
      refine ⟨3, (by decide), rfl, ?_⟩
      refine Or.inr (Or.inr ⟨3, (by decide), rfl, ?_⟩)
      refine ⟨⟨3, (by decide), rfl⟩, ?_⟩
      refine Call_wp (lv := [some (vr 4109)]) (by decide) ckJ0_coder_7d493 [] rfl rfl ?_
      refine ⟨fun c => absurd c (show (¬ ((1 : Int) = 0)) from by decide), fun _ => ?_⟩
      refine ⟨3, (by decide), rfl, ?_⟩
      refine ⟨rfl, (by decide), ?_⟩
      refine ⟨rfl, ?_⟩
      refine ⟨fun c => absurd c (show (¬ ((4 : Int) ≤ 1)) from by decide), fun _ => ?_⟩
      refine ⟨_, rfl, (by decide), ?_⟩
      refine ⟨⟨_, rfl, (by decide)⟩, ?_⟩
      have n9 : -2147483648 ≤ (wr ((I 218 2) + 1)) ∧ (wr ((I 218 2) + 1)) < 2147483648 := wr_R _
      refine c_byteAt (v0 := (wr ((I 218 2) + 1))) hF hR hx (fun vr10 hr11 => ?_)
      have hr11 : -2147483648 ≤ vr10 ∧ vr10 < 2147483648 := hr11
      refine ⟨⟨3, (by decide), rfl⟩, ?_⟩
      refine Call_wp (lv := [some (vr 4109), some (vi 1)]) (by decide) ckJ0_charAt_5068e [] rfl rfl ?_
      refine ⟨⟨3, (by decide), rfl⟩, ?_⟩
      refine Call_wp (lv := [some (vr 4109)]) (by decide) ckJ0_isLatin1_aae02 [] rfl rfl ?_
      refine ⟨fun c => absurd c (show (¬ ((1 : Int) = 0)) from by decide), fun _ => ?_⟩
      refine ⟨3, (by decide), rfl, ?_⟩
      refine ⟨fun c => absurd (show ((0 : Int) = 0) from by decide) c, fun _ => ?_⟩
      refine ⟨rfl, (by decide), ?_⟩
      refine ⟨fun c => absurd c (show (¬ ((1 : Int) = 0)) from by decide), fun _ => ?_⟩
      refine ⟨3, (by decide), rfl, ?_⟩
      refine Call_wp (lv := [some (vr 4139), some (vi 1)]) (by decide) ckJ1_charAt_3b067 [] rfl rfl ?_
      refine Or.inr (Or.inr ⟨3, (by decide), rfl, ?_⟩)
      refine j_check (i := 1) (n := 4) (by omega) ?_
      refine ⟨3, (by decide), rfl, (by decide), (by decide), ?_⟩
      refine ⟨rfl, (by decide), ?_⟩
      refine ⟨rfl, (by decide), ?_⟩
      refine ⟨fun (c12 : ((vr10 : Int) = 111)) => ?_, fun (c12 : (¬ ((vr10 : Int) = 111))) => ?_⟩
      ·
        refine ⟨⟨3, (by decide), rfl⟩, ?_⟩
        refine Call_wp (lv := [some (vr 4109)]) (by decide) ckJ0_length_8abf5 [] rfl rfl ?_
        refine ⟨3, (by decide), rfl, ?_⟩
        refine Or.inr (Or.inr ⟨3, (by decide), rfl, ?_⟩)
        refine ⟨⟨3, (by decide), rfl⟩, ?_⟩
        refine Call_wp (lv := [some (vr 4109)]) (by decide) ckJ0_coder_7d493 [] rfl rfl ?_
        refine ⟨fun c => absurd c (show (¬ ((1 : Int) = 0)) from by decide), fun _ => ?_⟩
        refine ⟨3, (by decide), rfl, ?_⟩
        refine ⟨rfl, (by decide), ?_⟩
        refine ⟨rfl, ?_⟩
        refine ⟨fun c => absurd c (show (¬ ((4 : Int) ≤ 2)) from by decide), fun _ => ?_⟩
        refine ⟨_, rfl, (by decide), ?_⟩
        refine ⟨⟨_, rfl, (by decide)⟩, ?_⟩
        have n13 : -2147483648 ≤ (wr ((I 218 2) + 2)) ∧ (wr ((I 218 2) + 2)) < 2147483648 := wr_R _
        refine c_byteAt (v0 := (wr ((I 218 2) + 2))) hF hR hx (fun vr14 hr15 => ?_)
        have hr15 : -2147483648 ≤ vr14 ∧ vr14 < 2147483648 := hr15
        refine ⟨⟨3, (by decide), rfl⟩, ?_⟩
        refine Call_wp (lv := [some (vr 4109), some (vi 2)]) (by decide) ckJ0_charAt_5068e [] rfl rfl ?_
        refine ⟨⟨3, (by decide), rfl⟩, ?_⟩
        refine Call_wp (lv := [some (vr 4109)]) (by decide) ckJ0_isLatin1_aae02 [] rfl rfl ?_
        refine ⟨fun c => absurd c (show (¬ ((1 : Int) = 0)) from by decide), fun _ => ?_⟩
        refine ⟨3, (by decide), rfl, ?_⟩
        refine ⟨fun c => absurd (show ((0 : Int) = 0) from by decide) c, fun _ => ?_⟩
        refine ⟨rfl, (by decide), ?_⟩
        refine ⟨fun c => absurd c (show (¬ ((1 : Int) = 0)) from by decide), fun _ => ?_⟩
        refine ⟨3, (by decide), rfl, ?_⟩
        refine Call_wp (lv := [some (vr 4139), some (vi 2)]) (by decide) ckJ1_charAt_3b067 [] rfl rfl ?_
        refine Or.inr (Or.inr ⟨3, (by decide), rfl, ?_⟩)
        refine j_check (i := 2) (n := 4) (by omega) ?_
        refine ⟨3, (by decide), rfl, (by decide), (by decide), ?_⟩
        refine ⟨rfl, (by decide), ?_⟩
        refine ⟨rfl, (by decide), ?_⟩
        refine ⟨fun (c16 : ((vr14 : Int) = 108)) => ?_, fun (c16 : (¬ ((vr14 : Int) = 108))) => ?_⟩
        ·
          refine ⟨⟨3, (by decide), rfl⟩, ?_⟩
          refine Call_wp (lv := [some (vr 4109)]) (by decide) ckJ0_length_8abf5 [] rfl rfl ?_
          refine ⟨3, (by decide), rfl, ?_⟩
          refine Or.inr (Or.inr ⟨3, (by decide), rfl, ?_⟩)
          refine ⟨⟨3, (by decide), rfl⟩, ?_⟩
          refine Call_wp (lv := [some (vr 4109)]) (by decide) ckJ0_coder_7d493 [] rfl rfl ?_
          refine ⟨fun c => absurd c (show (¬ ((1 : Int) = 0)) from by decide), fun _ => ?_⟩
          refine ⟨3, (by decide), rfl, ?_⟩
          refine ⟨rfl, (by decide), ?_⟩
          refine ⟨rfl, ?_⟩
          refine ⟨fun c => absurd c (show (¬ ((4 : Int) ≤ 3)) from by decide), fun _ => ?_⟩
          refine ⟨_, rfl, (by decide), ?_⟩
          refine ⟨⟨_, rfl, (by decide)⟩, ?_⟩
          have n17 : -2147483648 ≤ (wr ((I 218 2) + 3)) ∧ (wr ((I 218 2) + 3)) < 2147483648 := wr_R _
          refine c_byteAt (v0 := (wr ((I 218 2) + 3))) hF hR hx (fun vr18 hr19 => ?_)
          have hr19 : -2147483648 ≤ vr18 ∧ vr18 < 2147483648 := hr19
          refine ⟨⟨3, (by decide), rfl⟩, ?_⟩
          refine Call_wp (lv := [some (vr 4109), some (vi 3)]) (by decide) ckJ0_charAt_5068e [] rfl rfl ?_
          refine ⟨⟨3, (by decide), rfl⟩, ?_⟩
          refine Call_wp (lv := [some (vr 4109)]) (by decide) ckJ0_isLatin1_aae02 [] rfl rfl ?_
          refine ⟨fun c => absurd c (show (¬ ((1 : Int) = 0)) from by decide), fun _ => ?_⟩
          refine ⟨3, (by decide), rfl, ?_⟩
          refine ⟨fun c => absurd (show ((0 : Int) = 0) from by decide) c, fun _ => ?_⟩
          refine ⟨rfl, (by decide), ?_⟩
          refine ⟨fun c => absurd c (show (¬ ((1 : Int) = 0)) from by decide), fun _ => ?_⟩
          refine ⟨3, (by decide), rfl, ?_⟩
          refine Call_wp (lv := [some (vr 4139), some (vi 3)]) (by decide) ckJ1_charAt_3b067 [] rfl rfl ?_
          refine Or.inr (Or.inr ⟨3, (by decide), rfl, ?_⟩)
          refine j_check (i := 3) (n := 4) (by omega) ?_
          refine ⟨3, (by decide), rfl, (by decide), (by decide), ?_⟩
          refine ⟨rfl, (by decide), ?_⟩
          refine ⟨rfl, (by decide), ?_⟩
          refine ⟨fun (c20 : ((vr18 : Int) = 100)) => ?_, fun (c20 : (¬ ((vr18 : Int) = 100))) => ?_⟩
          ·
            refine ⟨⟨3, (by decide), rfl⟩, ?_⟩
            refine Call_wp (lv := [some (vr 4109)]) (by decide) ckJ0_length_8abf5 [] rfl rfl ?_
            refine ⟨3, (by decide), rfl, ?_⟩
            refine Or.inr (Or.inr ⟨3, (by decide), rfl, ?_⟩)
            refine ⟨⟨3, (by decide), rfl⟩, ?_⟩
            refine Call_wp (lv := [some (vr 4109)]) (by decide) ckJ0_coder_7d493 [] rfl rfl ?_
            refine ⟨fun c => absurd c (show (¬ ((1 : Int) = 0)) from by decide), fun _ => ?_⟩
            refine ⟨3, (by decide), rfl, ?_⟩
            refine ⟨rfl, (by decide), ?_⟩
            refine ⟨rfl, ?_⟩
            refine ⟨fun _ => ?_, fun c => absurd (show ((4 : Int) ≤ 4) from by decide) c⟩
            exact ⟨rfl, (by decide), fun hv hA' => hQ _ (hv _ rfl) (show 0 ≤ 1 ∧ 1 ≤ 1 from by first | omega | (simp only [wr, wl] at *; omega))⟩
          ·
            exact ⟨rfl, (by decide), fun hv hA' => hQ _ (hv _ rfl) (show 0 ≤ 0 ∧ 0 ≤ 1 from by first | omega | (simp only [wr, wl] at *; omega))⟩
        ·
          exact ⟨rfl, (by decide), fun hv hA' => hQ _ (hv _ rfl) (show 0 ≤ 0 ∧ 0 ≤ 1 from by first | omega | (simp only [wr, wl] at *; omega))⟩
      ·
        exact ⟨rfl, (by decide), fun hv hA' => hQ _ (hv _ rfl) (show 0 ≤ 0 ∧ 0 ≤ 1 from by first | omega | (simp only [wr, wl] at *; omega))⟩
    ·
      exact ⟨rfl, (by decide), fun hv hA' => hQ _ (hv _ rfl) (show 0 ≤ 0 ∧ 0 ≤ 1 from by first | omega | (simp only [wr, wl] at *; omega))⟩
  ·
    exact ⟨rfl, (by decide), fun hv hA' => hQ _ (hv _ rfl) (show 0 ≤ 0 ∧ 0 ≤ 1 from by first | omega | (simp only [wr, wl] at *; omega))⟩
theorem c_mark4 (hF : FS F) (hR : Rg I) (hx : F 218 0 = some 5) (hQ : ∀ r : Int, iR r → (0 ≤ r ∧ r ≤ 1) → Q (some (vi r)) F I) : CallN G (d + 4) kX9_isMark [vr 218, vr 4110] NP F I Q := by
  refine CallN_in (fun hok hA => CallN_out ?_)
  refine Call_wp (lv := [some (vr 218), some (vr 4110), none]) (by decide) ckX9_isMark [] rfl rfl ?_
  refine ⟨_, rfl, (by decide), ?_⟩
  refine ⟨_, rfl, (by decide), ?_⟩
  refine ⟨⟨4, (by decide), rfl⟩, ?_⟩
  refine Call_wp (lv := [some (vr 4110)]) (by decide) ckJ0_length_8abf5 [] rfl rfl ?_
  refine ⟨4, (by decide), rfl, ?_⟩
  refine Or.inr (Or.inr ⟨4, (by decide), rfl, ?_⟩)
  refine ⟨⟨4, (by decide), rfl⟩, ?_⟩
  refine Call_wp (lv := [some (vr 4110)]) (by decide) ckJ0_coder_7d493 [] rfl rfl ?_
  refine ⟨fun c => absurd c (show (¬ ((1 : Int) = 0)) from by decide), fun _ => ?_⟩
  refine ⟨4, (by decide), rfl, ?_⟩
  refine ⟨rfl, (by decide), ?_⟩
  refine ⟨rfl, ?_⟩
  have a1 : -2147483648 ≤ (I 218 3) ∧ (I 218 3) < 2147483648 := hA.1 _ _
  have a2 : -2147483648 ≤ (I 218 2) ∧ (I 218 2) < 2147483648 := hA.1 _ _
  have n3 : -2147483648 ≤ (wr ((I 218 3) - (I 218 2))) ∧ (wr ((I 218 3) - (I 218 2))) < 2147483648 := wr_R _
  refine ⟨fun (c4 : (((wr ((I 218 3) - (I 218 2))) : Int) = 4)) => ?_, fun (c4 : (¬ (((wr ((I 218 3) - (I 218 2))) : Int) = 4))) => ?_⟩
  ·
    refine ⟨⟨4, (by decide), rfl⟩, ?_⟩
    refine Call_wp (lv := [some (vr 4110)]) (by decide) ckJ0_length_8abf5 [] rfl rfl ?_
    refine ⟨4, (by decide), rfl, ?_⟩
    refine Or.inr (Or.inr ⟨4, (by decide), rfl, ?_⟩)
    refine ⟨⟨4, (by decide), rfl⟩, ?_⟩
    refine Call_wp (lv := [some (vr 4110)]) (by decide) ckJ0_coder_7d493 [] rfl rfl ?_
    refine ⟨fun c => absurd c (show (¬ ((1 : Int) = 0)) from by decide), fun _ => ?_⟩
    refine ⟨4, (by decide), rfl, ?_⟩
    refine ⟨rfl, (by decide), ?_⟩
    refine ⟨rfl, ?_⟩
    refine ⟨fun c => absurd c (show (¬ ((4 : Int) ≤ 0)) from by decide), fun _ => ?_⟩
    refine ⟨_, rfl, (by decide), ?_⟩
    refine ⟨⟨_, rfl, (by decide)⟩, ?_⟩
    have n5 : (wr ((I 218 2) + 0)) = (I 218 2) + 0 := wr_id (show -2147483648 ≤ ((I 218 2) + 0 : Int) ∧ ((I 218 2) + 0 : Int) < 2147483648 from by omega)
    refine c_byteAt (v0 := (wr ((I 218 2) + 0))) hF hR hx (fun vr6 hr7 => ?_)
    have hr7 : -2147483648 ≤ vr6 ∧ vr6 < 2147483648 := hr7
    refine ⟨⟨4, (by decide), rfl⟩, ?_⟩
    refine Call_wp (lv := [some (vr 4110), some (vi 0)]) (by decide) ckJ0_charAt_5068e [] rfl rfl ?_
    refine ⟨⟨4, (by decide), rfl⟩, ?_⟩
    refine Call_wp (lv := [some (vr 4110)]) (by decide) ckJ0_isLatin1_aae02 [] rfl rfl ?_
    refine ⟨fun c => absurd c (show (¬ ((1 : Int) = 0)) from by decide), fun _ => ?_⟩
    refine ⟨4, (by decide), rfl, ?_⟩
    refine ⟨fun c => absurd (show ((0 : Int) = 0) from by decide) c, fun _ => ?_⟩
    refine ⟨rfl, (by decide), ?_⟩
    refine ⟨fun c => absurd c (show (¬ ((1 : Int) = 0)) from by decide), fun _ => ?_⟩
    refine ⟨4, (by decide), rfl, ?_⟩
    refine Call_wp (lv := [some (vr 4140), some (vi 0)]) (by decide) ckJ1_charAt_3b067 [] rfl rfl ?_
    refine Or.inr (Or.inr ⟨4, (by decide), rfl, ?_⟩)
    refine j_check (i := 0) (n := 4) (by omega) ?_
    refine ⟨4, (by decide), rfl, (by decide), (by decide), ?_⟩
    refine ⟨rfl, (by decide), ?_⟩
    refine ⟨rfl, (by decide), ?_⟩
    refine ⟨fun (c8 : ((vr6 : Int) = 98)) => ?_, fun (c8 : (¬ ((vr6 : Int) = 98))) => ?_⟩
    ·
      refine ⟨⟨4, (by decide), rfl⟩, ?_⟩
      refine Call_wp (lv := [some (vr 4110)]) (by decide) ckJ0_length_8abf5 [] rfl rfl ?_
      refine ⟨4, (by decide), rfl, ?_⟩
      refine Or.inr (Or.inr ⟨4, (by decide), rfl, ?_⟩)
      refine ⟨⟨4, (by decide), rfl⟩, ?_⟩
      refine Call_wp (lv := [some (vr 4110)]) (by decide) ckJ0_coder_7d493 [] rfl rfl ?_
      refine ⟨fun c => absurd c (show (¬ ((1 : Int) = 0)) from by decide), fun _ => ?_⟩
      refine ⟨4, (by decide), rfl, ?_⟩
      refine ⟨rfl, (by decide), ?_⟩
      refine ⟨rfl, ?_⟩
      refine ⟨fun c => absurd c (show (¬ ((4 : Int) ≤ 1)) from by decide), fun _ => ?_⟩
      refine ⟨_, rfl, (by decide), ?_⟩
      refine ⟨⟨_, rfl, (by decide)⟩, ?_⟩
      have n9 : -2147483648 ≤ (wr ((I 218 2) + 1)) ∧ (wr ((I 218 2) + 1)) < 2147483648 := wr_R _
      refine c_byteAt (v0 := (wr ((I 218 2) + 1))) hF hR hx (fun vr10 hr11 => ?_)
      have hr11 : -2147483648 ≤ vr10 ∧ vr10 < 2147483648 := hr11
      refine ⟨⟨4, (by decide), rfl⟩, ?_⟩
      refine Call_wp (lv := [some (vr 4110), some (vi 1)]) (by decide) ckJ0_charAt_5068e [] rfl rfl ?_
      refine ⟨⟨4, (by decide), rfl⟩, ?_⟩
      refine Call_wp (lv := [some (vr 4110)]) (by decide) ckJ0_isLatin1_aae02 [] rfl rfl ?_
      refine ⟨fun c => absurd c (show (¬ ((1 : Int) = 0)) from by decide), fun _ => ?_⟩
      refine ⟨4, (by decide), rfl, ?_⟩
      refine ⟨fun c => absurd (show ((0 : Int) = 0) from by decide) c, fun _ => ?_⟩
      refine ⟨rfl, (by decide), ?_⟩
      refine ⟨fun c => absurd c (show (¬ ((1 : Int) = 0)) from by decide), fun _ => ?_⟩
      refine ⟨4, (by decide), rfl, ?_⟩
      refine Call_wp (lv := [some (vr 4140), some (vi 1)]) (by decide) ckJ1_charAt_3b067 [] rfl rfl ?_
      refine Or.inr (Or.inr ⟨4, (by decide), rfl, ?_⟩)
      refine j_check (i := 1) (n := 4) (by omega) ?_
      refine ⟨4, (by decide), rfl, (by decide), (by decide), ?_⟩
      refine ⟨rfl, (by decide), ?_⟩
      refine ⟨rfl, (by decide), ?_⟩
      refine ⟨fun (c12 : ((vr10 : Int) = 97)) => ?_, fun (c12 : (¬ ((vr10 : Int) = 97))) => ?_⟩
      ·
        refine ⟨⟨4, (by decide), rfl⟩, ?_⟩
        refine Call_wp (lv := [some (vr 4110)]) (by decide) ckJ0_length_8abf5 [] rfl rfl ?_
        refine ⟨4, (by decide), rfl, ?_⟩
        refine Or.inr (Or.inr ⟨4, (by decide), rfl, ?_⟩)
        refine ⟨⟨4, (by decide), rfl⟩, ?_⟩
        refine Call_wp (lv := [some (vr 4110)]) (by decide) ckJ0_coder_7d493 [] rfl rfl ?_
        refine ⟨fun c => absurd c (show (¬ ((1 : Int) = 0)) from by decide), fun _ => ?_⟩
        refine ⟨4, (by decide), rfl, ?_⟩
        refine ⟨rfl, (by decide), ?_⟩
        refine ⟨rfl, ?_⟩
        refine ⟨fun c => absurd c (show (¬ ((4 : Int) ≤ 2)) from by decide), fun _ => ?_⟩
        refine ⟨_, rfl, (by decide), ?_⟩
        refine ⟨⟨_, rfl, (by decide)⟩, ?_⟩
        have n13 : -2147483648 ≤ (wr ((I 218 2) + 2)) ∧ (wr ((I 218 2) + 2)) < 2147483648 := wr_R _
        refine c_byteAt (v0 := (wr ((I 218 2) + 2))) hF hR hx (fun vr14 hr15 => ?_)
        have hr15 : -2147483648 ≤ vr14 ∧ vr14 < 2147483648 := hr15
        refine ⟨⟨4, (by decide), rfl⟩, ?_⟩
        refine Call_wp (lv := [some (vr 4110), some (vi 2)]) (by decide) ckJ0_charAt_5068e [] rfl rfl ?_
        refine ⟨⟨4, (by decide), rfl⟩, ?_⟩
        refine Call_wp (lv := [some (vr 4110)]) (by decide) ckJ0_isLatin1_aae02 [] rfl rfl ?_
        refine ⟨fun c => absurd c (show (¬ ((1 : Int) = 0)) from by decide), fun _ => ?_⟩
        refine ⟨4, (by decide), rfl, ?_⟩
        refine ⟨fun c => absurd (show ((0 : Int) = 0) from by decide) c, fun _ => ?_⟩
        refine ⟨rfl, (by decide), ?_⟩
        refine ⟨fun c => absurd c (show (¬ ((1 : Int) = 0)) from by decide), fun _ => ?_⟩
        refine ⟨4, (by decide), rfl, ?_⟩
        refine Call_wp (lv := [some (vr 4140), some (vi 2)]) (by decide) ckJ1_charAt_3b067 [] rfl rfl ?_
        refine Or.inr (Or.inr ⟨4, (by decide), rfl, ?_⟩)
        refine j_check (i := 2) (n := 4) (by omega) ?_
        refine ⟨4, (by decide), rfl, (by decide), (by decide), ?_⟩
        refine ⟨rfl, (by decide), ?_⟩
        refine ⟨rfl, (by decide), ?_⟩
        refine ⟨fun (c16 : ((vr14 : Int) = 99)) => ?_, fun (c16 : (¬ ((vr14 : Int) = 99))) => ?_⟩
        ·
          refine ⟨⟨4, (by decide), rfl⟩, ?_⟩
          refine Call_wp (lv := [some (vr 4110)]) (by decide) ckJ0_length_8abf5 [] rfl rfl ?_
          refine ⟨4, (by decide), rfl, ?_⟩
          refine Or.inr (Or.inr ⟨4, (by decide), rfl, ?_⟩)
          refine ⟨⟨4, (by decide), rfl⟩, ?_⟩
          refine Call_wp (lv := [some (vr 4110)]) (by decide) ckJ0_coder_7d493 [] rfl rfl ?_
          refine ⟨fun c => absurd c (show (¬ ((1 : Int) = 0)) from by decide), fun _ => ?_⟩
          refine ⟨4, (by decide), rfl, ?_⟩
          refine ⟨rfl, (by decide), ?_⟩
          refine ⟨rfl, ?_⟩
          refine ⟨fun c => absurd c (show (¬ ((4 : Int) ≤ 3)) from by decide), fun _ => ?_⟩
          refine ⟨_, rfl, (by decide), ?_⟩
          refine ⟨⟨_, rfl, (by decide)⟩, ?_⟩
          have n17 : -2147483648 ≤ (wr ((I 218 2) + 3)) ∧ (wr ((I 218 2) + 3)) < 2147483648 := wr_R _
          refine c_byteAt (v0 := (wr ((I 218 2) + 3))) hF hR hx (fun vr18 hr19 => ?_)
          have hr19 : -2147483648 ≤ vr18 ∧ vr18 < 2147483648 := hr19
          refine ⟨⟨4, (by decide), rfl⟩, ?_⟩
          refine Call_wp (lv := [some (vr 4110), some (vi 3)]) (by decide) ckJ0_charAt_5068e [] rfl rfl ?_
          refine ⟨⟨4, (by decide), rfl⟩, ?_⟩
          refine Call_wp (lv := [some (vr 4110)]) (by decide) ckJ0_isLatin1_aae02 [] rfl rfl ?_
          refine ⟨fun c => absurd c (show (¬ ((1 : Int) = 0)) from by decide), fun _ => ?_⟩
          refine ⟨4, (by decide), rfl, ?_⟩
          refine ⟨fun c => absurd (show ((0 : Int) = 0) from by decide) c, fun _ => ?_⟩
          refine ⟨rfl, (by decide), ?_⟩
          refine ⟨fun c => absurd c (show (¬ ((1 : Int) = 0)) from by decide), fun _ => ?_⟩
          refine ⟨4, (by decide), rfl, ?_⟩
          refine Call_wp (lv := [some (vr 4140), some (vi 3)]) (by decide) ckJ1_charAt_3b067 [] rfl rfl ?_
          refine Or.inr (Or.inr ⟨4, (by decide), rfl, ?_⟩)
          refine j_check (i := 3) (n := 4) (by omega) ?_
          refine ⟨4, (by decide), rfl, (by decide), (by decide), ?_⟩
          refine ⟨rfl, (by decide), ?_⟩
          refine ⟨rfl, (by decide), ?_⟩
          refine ⟨fun (c20 : ((vr18 : Int) = 107)) => ?_, fun (c20 : (¬ ((vr18 : Int) = 107))) => ?_⟩
          ·
            refine ⟨⟨4, (by decide), rfl⟩, ?_⟩
            refine Call_wp (lv := [some (vr 4110)]) (by decide) ckJ0_length_8abf5 [] rfl rfl ?_
            refine ⟨4, (by decide), rfl, ?_⟩
            refine Or.inr (Or.inr ⟨4, (by decide), rfl, ?_⟩)
            refine ⟨⟨4, (by decide), rfl⟩, ?_⟩
            refine Call_wp (lv := [some (vr 4110)]) (by decide) ckJ0_coder_7d493 [] rfl rfl ?_
            refine ⟨fun c => absurd c (show (¬ ((1 : Int) = 0)) from by decide), fun _ => ?_⟩
            refine ⟨4, (by decide), rfl, ?_⟩
            refine ⟨rfl, (by decide), ?_⟩
            refine ⟨rfl, ?_⟩
            refine ⟨fun _ => ?_, fun c => absurd (show ((4 : Int) ≤ 4) from by decide) c⟩
            exact ⟨rfl, (by decide), fun hv hA' => hQ _ (hv _ rfl) (show 0 ≤ 1 ∧ 1 ≤ 1 from by first | omega | (simp only [wr, wl] at *; omega))⟩
          ·
            exact ⟨rfl, (by decide), fun hv hA' => hQ _ (hv _ rfl) (show 0 ≤ 0 ∧ 0 ≤ 1 from by first | omega | (simp only [wr, wl] at *; omega))⟩
        ·
          exact ⟨rfl, (by decide), fun hv hA' => hQ _ (hv _ rfl) (show 0 ≤ 0 ∧ 0 ≤ 1 from by first | omega | (simp only [wr, wl] at *; omega))⟩
      ·
        exact ⟨rfl, (by decide), fun hv hA' => hQ _ (hv _ rfl) (show 0 ≤ 0 ∧ 0 ≤ 1 from by first | omega | (simp only [wr, wl] at *; omega))⟩
    ·
      exact ⟨rfl, (by decide), fun hv hA' => hQ _ (hv _ rfl) (show 0 ≤ 0 ∧ 0 ≤ 1 from by first | omega | (simp only [wr, wl] at *; omega))⟩
  ·
    exact ⟨rfl, (by decide), fun hv hA' => hQ _ (hv _ rfl) (show 0 ≤ 0 ∧ 0 ≤ 1 from by first | omega | (simp only [wr, wl] at *; omega))⟩
theorem c_mark5 (hF : FS F) (hR : Rg I) (hx : F 218 0 = some 5) (hQ : ∀ r : Int, iR r → (0 ≤ r ∧ r ≤ 1) → Q (some (vi r)) F I) : CallN G (d + 4) kX9_isMark [vr 218, vr 4111] NP F I Q := by
  refine CallN_in (fun hok hA => CallN_out ?_)
  refine Call_wp (lv := [some (vr 218), some (vr 4111), none]) (by decide) ckX9_isMark [] rfl rfl ?_
  refine ⟨_, rfl, (by decide), ?_⟩
  refine ⟨_, rfl, (by decide), ?_⟩
  refine ⟨⟨5, (by decide), rfl⟩, ?_⟩
  refine Call_wp (lv := [some (vr 4111)]) (by decide) ckJ0_length_8abf5 [] rfl rfl ?_
  refine ⟨5, (by decide), rfl, ?_⟩
  refine Or.inr (Or.inr ⟨5, (by decide), rfl, ?_⟩)
  refine ⟨⟨5, (by decide), rfl⟩, ?_⟩
  refine Call_wp (lv := [some (vr 4111)]) (by decide) ckJ0_coder_7d493 [] rfl rfl ?_
  refine ⟨fun c => absurd c (show (¬ ((1 : Int) = 0)) from by decide), fun _ => ?_⟩
  refine ⟨5, (by decide), rfl, ?_⟩
  refine ⟨rfl, (by decide), ?_⟩
  refine ⟨rfl, ?_⟩
  have a1 : -2147483648 ≤ (I 218 3) ∧ (I 218 3) < 2147483648 := hA.1 _ _
  have a2 : -2147483648 ≤ (I 218 2) ∧ (I 218 2) < 2147483648 := hA.1 _ _
  have n3 : -2147483648 ≤ (wr ((I 218 3) - (I 218 2))) ∧ (wr ((I 218 3) - (I 218 2))) < 2147483648 := wr_R _
  refine ⟨fun (c4 : (((wr ((I 218 3) - (I 218 2))) : Int) = 4)) => ?_, fun (c4 : (¬ (((wr ((I 218 3) - (I 218 2))) : Int) = 4))) => ?_⟩
  ·
    refine ⟨⟨5, (by decide), rfl⟩, ?_⟩
    refine Call_wp (lv := [some (vr 4111)]) (by decide) ckJ0_length_8abf5 [] rfl rfl ?_
    refine ⟨5, (by decide), rfl, ?_⟩
    refine Or.inr (Or.inr ⟨5, (by decide), rfl, ?_⟩)
    refine ⟨⟨5, (by decide), rfl⟩, ?_⟩
    refine Call_wp (lv := [some (vr 4111)]) (by decide) ckJ0_coder_7d493 [] rfl rfl ?_
    refine ⟨fun c => absurd c (show (¬ ((1 : Int) = 0)) from by decide), fun _ => ?_⟩
    refine ⟨5, (by decide), rfl, ?_⟩
    refine ⟨rfl, (by decide), ?_⟩
    refine ⟨rfl, ?_⟩
    refine ⟨fun c => absurd c (show (¬ ((4 : Int) ≤ 0)) from by decide), fun _ => ?_⟩
    refine ⟨_, rfl, (by decide), ?_⟩
    refine ⟨⟨_, rfl, (by decide)⟩, ?_⟩
    have n5 : (wr ((I 218 2) + 0)) = (I 218 2) + 0 := wr_id (show -2147483648 ≤ ((I 218 2) + 0 : Int) ∧ ((I 218 2) + 0 : Int) < 2147483648 from by omega)
    refine c_byteAt (v0 := (wr ((I 218 2) + 0))) hF hR hx (fun vr6 hr7 => ?_)
    have hr7 : -2147483648 ≤ vr6 ∧ vr6 < 2147483648 := hr7
    refine ⟨⟨5, (by decide), rfl⟩, ?_⟩
    refine Call_wp (lv := [some (vr 4111), some (vi 0)]) (by decide) ckJ0_charAt_5068e [] rfl rfl ?_
    refine ⟨⟨5, (by decide), rfl⟩, ?_⟩
    refine Call_wp (lv := [some (vr 4111)]) (by decide) ckJ0_isLatin1_aae02 [] rfl rfl ?_
    refine ⟨fun c => absurd c (show (¬ ((1 : Int) = 0)) from by decide), fun _ => ?_⟩
    refine ⟨5, (by decide), rfl, ?_⟩
    refine ⟨fun c => absurd (show ((0 : Int) = 0) from by decide) c, fun _ => ?_⟩
    refine ⟨rfl, (by decide), ?_⟩
    refine ⟨fun c => absurd c (show (¬ ((1 : Int) = 0)) from by decide), fun _ => ?_⟩
    refine ⟨5, (by decide), rfl, ?_⟩
    refine Call_wp (lv := [some (vr 4141), some (vi 0)]) (by decide) ckJ1_charAt_3b067 [] rfl rfl ?_
    refine Or.inr (Or.inr ⟨5, (by decide), rfl, ?_⟩)
    refine j_check (i := 0) (n := 4) (by omega) ?_
    refine ⟨5, (by decide), rfl, (by decide), (by decide), ?_⟩
    refine ⟨rfl, (by decide), ?_⟩
    refine ⟨rfl, (by decide), ?_⟩
    refine ⟨fun (c8 : ((vr6 : Int) = 114)) => ?_, fun (c8 : (¬ ((vr6 : Int) = 114))) => ?_⟩
    ·
      refine ⟨⟨5, (by decide), rfl⟩, ?_⟩
      refine Call_wp (lv := [some (vr 4111)]) (by decide) ckJ0_length_8abf5 [] rfl rfl ?_
      refine ⟨5, (by decide), rfl, ?_⟩
      refine Or.inr (Or.inr ⟨5, (by decide), rfl, ?_⟩)
      refine ⟨⟨5, (by decide), rfl⟩, ?_⟩
      refine Call_wp (lv := [some (vr 4111)]) (by decide) ckJ0_coder_7d493 [] rfl rfl ?_
      refine ⟨fun c => absurd c (show (¬ ((1 : Int) = 0)) from by decide), fun _ => ?_⟩
      refine ⟨5, (by decide), rfl, ?_⟩
      refine ⟨rfl, (by decide), ?_⟩
      refine ⟨rfl, ?_⟩
      refine ⟨fun c => absurd c (show (¬ ((4 : Int) ≤ 1)) from by decide), fun _ => ?_⟩
      refine ⟨_, rfl, (by decide), ?_⟩
      refine ⟨⟨_, rfl, (by decide)⟩, ?_⟩
      have n9 : -2147483648 ≤ (wr ((I 218 2) + 1)) ∧ (wr ((I 218 2) + 1)) < 2147483648 := wr_R _
      refine c_byteAt (v0 := (wr ((I 218 2) + 1))) hF hR hx (fun vr10 hr11 => ?_)
      have hr11 : -2147483648 ≤ vr10 ∧ vr10 < 2147483648 := hr11
      refine ⟨⟨5, (by decide), rfl⟩, ?_⟩
      refine Call_wp (lv := [some (vr 4111), some (vi 1)]) (by decide) ckJ0_charAt_5068e [] rfl rfl ?_
      refine ⟨⟨5, (by decide), rfl⟩, ?_⟩
      refine Call_wp (lv := [some (vr 4111)]) (by decide) ckJ0_isLatin1_aae02 [] rfl rfl ?_
      refine ⟨fun c => absurd c (show (¬ ((1 : Int) = 0)) from by decide), fun _ => ?_⟩
      refine ⟨5, (by decide), rfl, ?_⟩
      refine ⟨fun c => absurd (show ((0 : Int) = 0) from by decide) c, fun _ => ?_⟩
      refine ⟨rfl, (by decide), ?_⟩
      refine ⟨fun c => absurd c (show (¬ ((1 : Int) = 0)) from by decide), fun _ => ?_⟩
      refine ⟨5, (by decide), rfl, ?_⟩
      refine Call_wp (lv := [some (vr 4141), some (vi 1)]) (by decide) ckJ1_charAt_3b067 [] rfl rfl ?_
      refine Or.inr (Or.inr ⟨5, (by decide), rfl, ?_⟩)
      refine j_check (i := 1) (n := 4) (by omega) ?_
      refine ⟨5, (by decide), rfl, (by decide), (by decide), ?_⟩
      refine ⟨rfl, (by decide), ?_⟩
      refine ⟨rfl, (by decide), ?_⟩
      refine ⟨fun (c12 : ((vr10 : Int) = 101)) => ?_, fun (c12 : (¬ ((vr10 : Int) = 101))) => ?_⟩
      ·
        refine ⟨⟨5, (by decide), rfl⟩, ?_⟩
        refine Call_wp (lv := [some (vr 4111)]) (by decide) ckJ0_length_8abf5 [] rfl rfl ?_
        refine ⟨5, (by decide), rfl, ?_⟩
        refine Or.inr (Or.inr ⟨5, (by decide), rfl, ?_⟩)
        refine ⟨⟨5, (by decide), rfl⟩, ?_⟩
        refine Call_wp (lv := [some (vr 4111)]) (by decide) ckJ0_coder_7d493 [] rfl rfl ?_
        refine ⟨fun c => absurd c (show (¬ ((1 : Int) = 0)) from by decide), fun _ => ?_⟩
        refine ⟨5, (by decide), rfl, ?_⟩
        refine ⟨rfl, (by decide), ?_⟩
        refine ⟨rfl, ?_⟩
        refine ⟨fun c => absurd c (show (¬ ((4 : Int) ≤ 2)) from by decide), fun _ => ?_⟩
        refine ⟨_, rfl, (by decide), ?_⟩
        refine ⟨⟨_, rfl, (by decide)⟩, ?_⟩
        have n13 : -2147483648 ≤ (wr ((I 218 2) + 2)) ∧ (wr ((I 218 2) + 2)) < 2147483648 := wr_R _
        refine c_byteAt (v0 := (wr ((I 218 2) + 2))) hF hR hx (fun vr14 hr15 => ?_)
        have hr15 : -2147483648 ≤ vr14 ∧ vr14 < 2147483648 := hr15
        refine ⟨⟨5, (by decide), rfl⟩, ?_⟩
        refine Call_wp (lv := [some (vr 4111), some (vi 2)]) (by decide) ckJ0_charAt_5068e [] rfl rfl ?_
        refine ⟨⟨5, (by decide), rfl⟩, ?_⟩
        refine Call_wp (lv := [some (vr 4111)]) (by decide) ckJ0_isLatin1_aae02 [] rfl rfl ?_
        refine ⟨fun c => absurd c (show (¬ ((1 : Int) = 0)) from by decide), fun _ => ?_⟩
        refine ⟨5, (by decide), rfl, ?_⟩
        refine ⟨fun c => absurd (show ((0 : Int) = 0) from by decide) c, fun _ => ?_⟩
        refine ⟨rfl, (by decide), ?_⟩
        refine ⟨fun c => absurd c (show (¬ ((1 : Int) = 0)) from by decide), fun _ => ?_⟩
        refine ⟨5, (by decide), rfl, ?_⟩
        refine Call_wp (lv := [some (vr 4141), some (vi 2)]) (by decide) ckJ1_charAt_3b067 [] rfl rfl ?_
        refine Or.inr (Or.inr ⟨5, (by decide), rfl, ?_⟩)
        refine j_check (i := 2) (n := 4) (by omega) ?_
        refine ⟨5, (by decide), rfl, (by decide), (by decide), ?_⟩
        refine ⟨rfl, (by decide), ?_⟩
        refine ⟨rfl, (by decide), ?_⟩
        refine ⟨fun (c16 : ((vr14 : Int) = 97)) => ?_, fun (c16 : (¬ ((vr14 : Int) = 97))) => ?_⟩
        ·
          refine ⟨⟨5, (by decide), rfl⟩, ?_⟩
          refine Call_wp (lv := [some (vr 4111)]) (by decide) ckJ0_length_8abf5 [] rfl rfl ?_
          refine ⟨5, (by decide), rfl, ?_⟩
          refine Or.inr (Or.inr ⟨5, (by decide), rfl, ?_⟩)
          refine ⟨⟨5, (by decide), rfl⟩, ?_⟩
          refine Call_wp (lv := [some (vr 4111)]) (by decide) ckJ0_coder_7d493 [] rfl rfl ?_
          refine ⟨fun c => absurd c (show (¬ ((1 : Int) = 0)) from by decide), fun _ => ?_⟩
          refine ⟨5, (by decide), rfl, ?_⟩
          refine ⟨rfl, (by decide), ?_⟩
          refine ⟨rfl, ?_⟩
          refine ⟨fun c => absurd c (show (¬ ((4 : Int) ≤ 3)) from by decide), fun _ => ?_⟩
          refine ⟨_, rfl, (by decide), ?_⟩
          refine ⟨⟨_, rfl, (by decide)⟩, ?_⟩
          have n17 : -2147483648 ≤ (wr ((I 218 2) + 3)) ∧ (wr ((I 218 2) + 3)) < 2147483648 := wr_R _
          refine c_byteAt (v0 := (wr ((I 218 2) + 3))) hF hR hx (fun vr18 hr19 => ?_)
          have hr19 : -2147483648 ≤ vr18 ∧ vr18 < 2147483648 := hr19
          refine ⟨⟨5, (by decide), rfl⟩, ?_⟩
          refine Call_wp (lv := [some (vr 4111), some (vi 3)]) (by decide) ckJ0_charAt_5068e [] rfl rfl ?_
          refine ⟨⟨5, (by decide), rfl⟩, ?_⟩
          refine Call_wp (lv := [some (vr 4111)]) (by decide) ckJ0_isLatin1_aae02 [] rfl rfl ?_
          refine ⟨fun c => absurd c (show (¬ ((1 : Int) = 0)) from by decide), fun _ => ?_⟩
          refine ⟨5, (by decide), rfl, ?_⟩
          refine ⟨fun c => absurd (show ((0 : Int) = 0) from by decide) c, fun _ => ?_⟩
          refine ⟨rfl, (by decide), ?_⟩
          refine ⟨fun c => absurd c (show (¬ ((1 : Int) = 0)) from by decide), fun _ => ?_⟩
          refine ⟨5, (by decide), rfl, ?_⟩
          refine Call_wp (lv := [some (vr 4141), some (vi 3)]) (by decide) ckJ1_charAt_3b067 [] rfl rfl ?_
          refine Or.inr (Or.inr ⟨5, (by decide), rfl, ?_⟩)
          refine j_check (i := 3) (n := 4) (by omega) ?_
          refine ⟨5, (by decide), rfl, (by decide), (by decide), ?_⟩
          refine ⟨rfl, (by decide), ?_⟩
          refine ⟨rfl, (by decide), ?_⟩
          refine ⟨fun (c20 : ((vr18 : Int) = 100)) => ?_, fun (c20 : (¬ ((vr18 : Int) = 100))) => ?_⟩
          ·
            refine ⟨⟨5, (by decide), rfl⟩, ?_⟩
            refine Call_wp (lv := [some (vr 4111)]) (by decide) ckJ0_length_8abf5 [] rfl rfl ?_
            refine ⟨5, (by decide), rfl, ?_⟩
            refine Or.inr (Or.inr ⟨5, (by decide), rfl, ?_⟩)
            refine ⟨⟨5, (by decide), rfl⟩, ?_⟩
            refine Call_wp (lv := [some (vr 4111)]) (by decide) ckJ0_coder_7d493 [] rfl rfl ?_
            refine ⟨fun c => absurd c (show (¬ ((1 : Int) = 0)) from by decide), fun _ => ?_⟩
            refine ⟨5, (by decide), rfl, ?_⟩
            refine ⟨rfl, (by decide), ?_⟩
            refine ⟨rfl, ?_⟩
            refine ⟨fun _ => ?_, fun c => absurd (show ((4 : Int) ≤ 4) from by decide) c⟩
            exact ⟨rfl, (by decide), fun hv hA' => hQ _ (hv _ rfl) (show 0 ≤ 1 ∧ 1 ≤ 1 from by first | omega | (simp only [wr, wl] at *; omega))⟩
          ·
            exact ⟨rfl, (by decide), fun hv hA' => hQ _ (hv _ rfl) (show 0 ≤ 0 ∧ 0 ≤ 1 from by first | omega | (simp only [wr, wl] at *; omega))⟩
        ·
          exact ⟨rfl, (by decide), fun hv hA' => hQ _ (hv _ rfl) (show 0 ≤ 0 ∧ 0 ≤ 1 from by first | omega | (simp only [wr, wl] at *; omega))⟩
      ·
        exact ⟨rfl, (by decide), fun hv hA' => hQ _ (hv _ rfl) (show 0 ≤ 0 ∧ 0 ≤ 1 from by first | omega | (simp only [wr, wl] at *; omega))⟩
    ·
      exact ⟨rfl, (by decide), fun hv hA' => hQ _ (hv _ rfl) (show 0 ≤ 0 ∧ 0 ≤ 1 from by first | omega | (simp only [wr, wl] at *; omega))⟩
  ·
    exact ⟨rfl, (by decide), fun hv hA' => hQ _ (hv _ rfl) (show 0 ≤ 0 ∧ 0 ≤ 1 from by first | omega | (simp only [wr, wl] at *; omega))⟩
theorem c_mark6 (hF : FS F) (hR : Rg I) (hx : F 218 0 = some 5) (hQ : ∀ r : Int, iR r → (0 ≤ r ∧ r ≤ 1) → Q (some (vi r)) F I) : CallN G (d + 4) kX9_isMark [vr 218, vr 4112] NP F I Q := by
  refine CallN_in (fun hok hA => CallN_out ?_)
  refine Call_wp (lv := [some (vr 218), some (vr 4112), none]) (by decide) ckX9_isMark [] rfl rfl ?_
  refine ⟨_, rfl, (by decide), ?_⟩
  refine ⟨_, rfl, (by decide), ?_⟩
  refine ⟨⟨6, (by decide), rfl⟩, ?_⟩
  refine Call_wp (lv := [some (vr 4112)]) (by decide) ckJ0_length_8abf5 [] rfl rfl ?_
  refine ⟨6, (by decide), rfl, ?_⟩
  refine Or.inr (Or.inr ⟨6, (by decide), rfl, ?_⟩)
  refine ⟨⟨6, (by decide), rfl⟩, ?_⟩
  refine Call_wp (lv := [some (vr 4112)]) (by decide) ckJ0_coder_7d493 [] rfl rfl ?_
  refine ⟨fun c => absurd c (show (¬ ((1 : Int) = 0)) from by decide), fun _ => ?_⟩
  refine ⟨6, (by decide), rfl, ?_⟩
  refine ⟨rfl, (by decide), ?_⟩
  refine ⟨rfl, ?_⟩
  have a1 : -2147483648 ≤ (I 218 3) ∧ (I 218 3) < 2147483648 := hA.1 _ _
  have a2 : -2147483648 ≤ (I 218 2) ∧ (I 218 2) < 2147483648 := hA.1 _ _
  have n3 : -2147483648 ≤ (wr ((I 218 3) - (I 218 2))) ∧ (wr ((I 218 3) - (I 218 2))) < 2147483648 := wr_R _
  refine ⟨fun (c4 : (((wr ((I 218 3) - (I 218 2))) : Int) = 4)) => ?_, fun (c4 : (¬ (((wr ((I 218 3) - (I 218 2))) : Int) = 4))) => ?_⟩
  ·
    refine ⟨⟨6, (by decide), rfl⟩, ?_⟩
    refine Call_wp (lv := [some (vr 4112)]) (by decide) ckJ0_length_8abf5 [] rfl rfl ?_
    refine ⟨6, (by decide), rfl, ?_⟩
    refine Or.inr (Or.inr ⟨6, (by decide), rfl, ?_⟩)
    refine ⟨⟨6, (by decide), rfl⟩, ?_⟩
    refine Call_wp (lv := [some (vr 4112)]) (by decide) ckJ0_coder_7d493 [] rfl rfl ?_
    refine ⟨fun c => absurd c (show (¬ ((1 : Int) = 0)) from by decide), fun _ => ?_⟩
    refine ⟨6, (by decide), rfl, ?_⟩
    refine ⟨rfl, (by decide), ?_⟩
    refine ⟨rfl, ?_⟩
    refine ⟨fun c => absurd c (show (¬ ((4 : Int) ≤ 0)) from by decide), fun _ => ?_⟩
    refine ⟨_, rfl, (by decide), ?_⟩
    refine ⟨⟨_, rfl, (by decide)⟩, ?_⟩
    have n5 : (wr ((I 218 2) + 0)) = (I 218 2) + 0 := wr_id (show -2147483648 ≤ ((I 218 2) + 0 : Int) ∧ ((I 218 2) + 0 : Int) < 2147483648 from by omega)
    refine c_byteAt (v0 := (wr ((I 218 2) + 0))) hF hR hx (fun vr6 hr7 => ?_)
    have hr7 : -2147483648 ≤ vr6 ∧ vr6 < 2147483648 := hr7
    refine ⟨⟨6, (by decide), rfl⟩, ?_⟩
    refine Call_wp (lv := [some (vr 4112), some (vi 0)]) (by decide) ckJ0_charAt_5068e [] rfl rfl ?_
    refine ⟨⟨6, (by decide), rfl⟩, ?_⟩
    refine Call_wp (lv := [some (vr 4112)]) (by decide) ckJ0_isLatin1_aae02 [] rfl rfl ?_
    refine ⟨fun c => absurd c (show (¬ ((1 : Int) = 0)) from by decide), fun _ => ?_⟩
    refine ⟨6, (by decide), rfl, ?_⟩
    refine ⟨fun c => absurd (show ((0 : Int) = 0) from by decide) c, fun _ => ?_⟩
    refine ⟨rfl, (by decide), ?_⟩
    refine ⟨fun c => absurd c (show (¬ ((1 : Int) = 0)) from by decide), fun _ => ?_⟩
    refine ⟨6, (by decide), rfl, ?_⟩
    refine Call_wp (lv := [some (vr 4142), some (vi 0)]) (by decide) ckJ1_charAt_3b067 [] rfl rfl ?_
    refine Or.inr (Or.inr ⟨6, (by decide), rfl, ?_⟩)
    refine j_check (i := 0) (n := 4) (by omega) ?_
    refine ⟨6, (by decide), rfl, (by decide), (by decide), ?_⟩
    refine ⟨rfl, (by decide), ?_⟩
    refine ⟨rfl, (by decide), ?_⟩
    refine ⟨fun (c8 : ((vr6 : Int) = 116)) => ?_, fun (c8 : (¬ ((vr6 : Int) = 116))) => ?_⟩
    ·
      refine ⟨⟨6, (by decide), rfl⟩, ?_⟩
      refine Call_wp (lv := [some (vr 4112)]) (by decide) ckJ0_length_8abf5 [] rfl rfl ?_
      refine ⟨6, (by decide), rfl, ?_⟩
      refine Or.inr (Or.inr ⟨6, (by decide), rfl, ?_⟩)
      refine ⟨⟨6, (by decide), rfl⟩, ?_⟩
      refine Call_wp (lv := [some (vr 4112)]) (by decide) ckJ0_coder_7d493 [] rfl rfl ?_
      refine ⟨fun c => absurd c (show (¬ ((1 : Int) = 0)) from by decide), fun _ => ?_⟩
      refine ⟨6, (by decide), rfl, ?_⟩
      refine ⟨rfl, (by decide), ?_⟩
      refine ⟨rfl, ?_⟩
      refine ⟨fun c => absurd c (show (¬ ((4 : Int) ≤ 1)) from by decide), fun _ => ?_⟩
      refine ⟨_, rfl, (by decide), ?_⟩
      refine ⟨⟨_, rfl, (by decide)⟩, ?_⟩
      have n9 : -2147483648 ≤ (wr ((I 218 2) + 1)) ∧ (wr ((I 218 2) + 1)) < 2147483648 := wr_R _
      refine c_byteAt (v0 := (wr ((I 218 2) + 1))) hF hR hx (fun vr10 hr11 => ?_)
      have hr11 : -2147483648 ≤ vr10 ∧ vr10 < 2147483648 := hr11
      refine ⟨⟨6, (by decide), rfl⟩, ?_⟩
      refine Call_wp (lv := [some (vr 4112), some (vi 1)]) (by decide) ckJ0_charAt_5068e [] rfl rfl ?_
      refine ⟨⟨6, (by decide), rfl⟩, ?_⟩
      refine Call_wp (lv := [some (vr 4112)]) (by decide) ckJ0_isLatin1_aae02 [] rfl rfl ?_
      refine ⟨fun c => absurd c (show (¬ ((1 : Int) = 0)) from by decide), fun _ => ?_⟩
      refine ⟨6, (by decide), rfl, ?_⟩
      refine ⟨fun c => absurd (show ((0 : Int) = 0) from by decide) c, fun _ => ?_⟩
      refine ⟨rfl, (by decide), ?_⟩
      refine ⟨fun c => absurd c (show (¬ ((1 : Int) = 0)) from by decide), fun _ => ?_⟩
      refine ⟨6, (by decide), rfl, ?_⟩
      refine Call_wp (lv := [some (vr 4142), some (vi 1)]) (by decide) ckJ1_charAt_3b067 [] rfl rfl ?_
      refine Or.inr (Or.inr ⟨6, (by decide), rfl, ?_⟩)
      refine j_check (i := 1) (n := 4) (by omega) ?_
      refine ⟨6, (by decide), rfl, (by decide), (by decide), ?_⟩
      refine ⟨rfl, (by decide), ?_⟩
      refine ⟨rfl, (by decide), ?_⟩
      refine ⟨fun (c12 : ((vr10 : Int) = 105)) => ?_, fun (c12 : (¬ ((vr10 : Int) = 105))) => ?_⟩
      ·
        refine ⟨⟨6, (by decide), rfl⟩, ?_⟩
        refine Call_wp (lv := [some (vr 4112)]) (by decide) ckJ0_length_8abf5 [] rfl rfl ?_
        refine ⟨6, (by decide), rfl, ?_⟩
        refine Or.inr (Or.inr ⟨6, (by decide), rfl, ?_⟩)
        refine ⟨⟨6, (by decide), rfl⟩, ?_⟩
        refine Call_wp (lv := [some (vr 4112)]) (by decide) ckJ0_coder_7d493 [] rfl rfl ?_
        refine ⟨fun c => absurd c (show (¬ ((1 : Int) = 0)) from by decide), fun _ => ?_⟩
        refine ⟨6, (by decide), rfl, ?_⟩
        refine ⟨rfl, (by decide), ?_⟩
        refine ⟨rfl, ?_⟩
        refine ⟨fun c => absurd c (show (¬ ((4 : Int) ≤ 2)) from by decide), fun _ => ?_⟩
        refine ⟨_, rfl, (by decide), ?_⟩
        refine ⟨⟨_, rfl, (by decide)⟩, ?_⟩
        have n13 : -2147483648 ≤ (wr ((I 218 2) + 2)) ∧ (wr ((I 218 2) + 2)) < 2147483648 := wr_R _
        refine c_byteAt (v0 := (wr ((I 218 2) + 2))) hF hR hx (fun vr14 hr15 => ?_)
        have hr15 : -2147483648 ≤ vr14 ∧ vr14 < 2147483648 := hr15
        refine ⟨⟨6, (by decide), rfl⟩, ?_⟩
        refine Call_wp (lv := [some (vr 4112), some (vi 2)]) (by decide) ckJ0_charAt_5068e [] rfl rfl ?_
        refine ⟨⟨6, (by decide), rfl⟩, ?_⟩
        refine Call_wp (lv := [some (vr 4112)]) (by decide) ckJ0_isLatin1_aae02 [] rfl rfl ?_
        refine ⟨fun c => absurd c (show (¬ ((1 : Int) = 0)) from by decide), fun _ => ?_⟩
        refine ⟨6, (by decide), rfl, ?_⟩
        refine ⟨fun c => absurd (show ((0 : Int) = 0) from by decide) c, fun _ => ?_⟩
        refine ⟨rfl, (by decide), ?_⟩
        refine ⟨fun c => absurd c (show (¬ ((1 : Int) = 0)) from by decide), fun _ => ?_⟩
        refine ⟨6, (by decide), rfl, ?_⟩
        refine Call_wp (lv := [some (vr 4142), some (vi 2)]) (by decide) ckJ1_charAt_3b067 [] rfl rfl ?_
        refine Or.inr (Or.inr ⟨6, (by decide), rfl, ?_⟩)
        refine j_check (i := 2) (n := 4) (by omega) ?_
        refine ⟨6, (by decide), rfl, (by decide), (by decide), ?_⟩
        refine ⟨rfl, (by decide), ?_⟩
        refine ⟨rfl, (by decide), ?_⟩
        refine ⟨fun (c16 : ((vr14 : Int) = 108)) => ?_, fun (c16 : (¬ ((vr14 : Int) = 108))) => ?_⟩
        ·
          refine ⟨⟨6, (by decide), rfl⟩, ?_⟩
          refine Call_wp (lv := [some (vr 4112)]) (by decide) ckJ0_length_8abf5 [] rfl rfl ?_
          refine ⟨6, (by decide), rfl, ?_⟩
          refine Or.inr (Or.inr ⟨6, (by decide), rfl, ?_⟩)
          refine ⟨⟨6, (by decide), rfl⟩, ?_⟩
          refine Call_wp (lv := [some (vr 4112)]) (by decide) ckJ0_coder_7d493 [] rfl rfl ?_
          refine ⟨fun c => absurd c (show (¬ ((1 : Int) = 0)) from by decide), fun _ => ?_⟩
          refine ⟨6, (by decide), rfl, ?_⟩
          refine ⟨rfl, (by decide), ?_⟩
          refine ⟨rfl, ?_⟩
          refine ⟨fun c => absurd c (show (¬ ((4 : Int) ≤ 3)) from by decide), fun _ => ?_⟩
          refine ⟨_, rfl, (by decide), ?_⟩
          refine ⟨⟨_, rfl, (by decide)⟩, ?_⟩
          have n17 : -2147483648 ≤ (wr ((I 218 2) + 3)) ∧ (wr ((I 218 2) + 3)) < 2147483648 := wr_R _
          refine c_byteAt (v0 := (wr ((I 218 2) + 3))) hF hR hx (fun vr18 hr19 => ?_)
          have hr19 : -2147483648 ≤ vr18 ∧ vr18 < 2147483648 := hr19
          refine ⟨⟨6, (by decide), rfl⟩, ?_⟩
          refine Call_wp (lv := [some (vr 4112), some (vi 3)]) (by decide) ckJ0_charAt_5068e [] rfl rfl ?_
          refine ⟨⟨6, (by decide), rfl⟩, ?_⟩
          refine Call_wp (lv := [some (vr 4112)]) (by decide) ckJ0_isLatin1_aae02 [] rfl rfl ?_
          refine ⟨fun c => absurd c (show (¬ ((1 : Int) = 0)) from by decide), fun _ => ?_⟩
          refine ⟨6, (by decide), rfl, ?_⟩
          refine ⟨fun c => absurd (show ((0 : Int) = 0) from by decide) c, fun _ => ?_⟩
          refine ⟨rfl, (by decide), ?_⟩
          refine ⟨fun c => absurd c (show (¬ ((1 : Int) = 0)) from by decide), fun _ => ?_⟩
          refine ⟨6, (by decide), rfl, ?_⟩
          refine Call_wp (lv := [some (vr 4142), some (vi 3)]) (by decide) ckJ1_charAt_3b067 [] rfl rfl ?_
          refine Or.inr (Or.inr ⟨6, (by decide), rfl, ?_⟩)
          refine j_check (i := 3) (n := 4) (by omega) ?_
          refine ⟨6, (by decide), rfl, (by decide), (by decide), ?_⟩
          refine ⟨rfl, (by decide), ?_⟩
          refine ⟨rfl, (by decide), ?_⟩
          refine ⟨fun (c20 : ((vr18 : Int) = 108)) => ?_, fun (c20 : (¬ ((vr18 : Int) = 108))) => ?_⟩
          ·
            refine ⟨⟨6, (by decide), rfl⟩, ?_⟩
            refine Call_wp (lv := [some (vr 4112)]) (by decide) ckJ0_length_8abf5 [] rfl rfl ?_
            refine ⟨6, (by decide), rfl, ?_⟩
            refine Or.inr (Or.inr ⟨6, (by decide), rfl, ?_⟩)
            refine ⟨⟨6, (by decide), rfl⟩, ?_⟩
            refine Call_wp (lv := [some (vr 4112)]) (by decide) ckJ0_coder_7d493 [] rfl rfl ?_
            refine ⟨fun c => absurd c (show (¬ ((1 : Int) = 0)) from by decide), fun _ => ?_⟩
            refine ⟨6, (by decide), rfl, ?_⟩
            refine ⟨rfl, (by decide), ?_⟩
            refine ⟨rfl, ?_⟩
            refine ⟨fun _ => ?_, fun c => absurd (show ((4 : Int) ≤ 4) from by decide) c⟩
            exact ⟨rfl, (by decide), fun hv hA' => hQ _ (hv _ rfl) (show 0 ≤ 1 ∧ 1 ≤ 1 from by first | omega | (simp only [wr, wl] at *; omega))⟩
          ·
            exact ⟨rfl, (by decide), fun hv hA' => hQ _ (hv _ rfl) (show 0 ≤ 0 ∧ 0 ≤ 1 from by first | omega | (simp only [wr, wl] at *; omega))⟩
        ·
          exact ⟨rfl, (by decide), fun hv hA' => hQ _ (hv _ rfl) (show 0 ≤ 0 ∧ 0 ≤ 1 from by first | omega | (simp only [wr, wl] at *; omega))⟩
      ·
        exact ⟨rfl, (by decide), fun hv hA' => hQ _ (hv _ rfl) (show 0 ≤ 0 ∧ 0 ≤ 1 from by first | omega | (simp only [wr, wl] at *; omega))⟩
    ·
      exact ⟨rfl, (by decide), fun hv hA' => hQ _ (hv _ rfl) (show 0 ≤ 0 ∧ 0 ≤ 1 from by first | omega | (simp only [wr, wl] at *; omega))⟩
  ·
    exact ⟨rfl, (by decide), fun hv hA' => hQ _ (hv _ rfl) (show 0 ≤ 0 ∧ 0 ≤ 1 from by first | omega | (simp only [wr, wl] at *; omega))⟩
theorem c_mark7 (hF : FS F) (hR : Rg I) (hx : F 218 0 = some 5) (hQ : ∀ r : Int, iR r → (0 ≤ r ∧ r ≤ 1) → Q (some (vi r)) F I) : CallN G (d + 4) kX9_isMark [vr 218, vr 4113] NP F I Q := by
  refine CallN_in (fun hok hA => CallN_out ?_)
  refine Call_wp (lv := [some (vr 218), some (vr 4113), none]) (by decide) ckX9_isMark [] rfl rfl ?_
  refine ⟨_, rfl, (by decide), ?_⟩
  refine ⟨_, rfl, (by decide), ?_⟩
  refine ⟨⟨7, (by decide), rfl⟩, ?_⟩
  refine Call_wp (lv := [some (vr 4113)]) (by decide) ckJ0_length_8abf5 [] rfl rfl ?_
  refine ⟨7, (by decide), rfl, ?_⟩
  refine Or.inr (Or.inr ⟨7, (by decide), rfl, ?_⟩)
  refine ⟨⟨7, (by decide), rfl⟩, ?_⟩
  refine Call_wp (lv := [some (vr 4113)]) (by decide) ckJ0_coder_7d493 [] rfl rfl ?_
  refine ⟨fun c => absurd c (show (¬ ((1 : Int) = 0)) from by decide), fun _ => ?_⟩
  refine ⟨7, (by decide), rfl, ?_⟩
  refine ⟨rfl, (by decide), ?_⟩
  refine ⟨rfl, ?_⟩
  have a1 : -2147483648 ≤ (I 218 3) ∧ (I 218 3) < 2147483648 := hA.1 _ _
  have a2 : -2147483648 ≤ (I 218 2) ∧ (I 218 2) < 2147483648 := hA.1 _ _
  have n3 : -2147483648 ≤ (wr ((I 218 3) - (I 218 2))) ∧ (wr ((I 218 3) - (I 218 2))) < 2147483648 := wr_R _
  refine ⟨fun (c4 : (((wr ((I 218 3) - (I 218 2))) : Int) = 1)) => ?_, fun (c4 : (¬ (((wr ((I 218 3) - (I 218 2))) : Int) = 1))) => ?_⟩
  ·
    refine ⟨⟨7, (by decide), rfl⟩, ?_⟩
    refine Call_wp (lv := [some (vr 4113)]) (by decide) ckJ0_length_8abf5 [] rfl rfl ?_
    refine ⟨7, (by decide), rfl, ?_⟩
    refine Or.inr (Or.inr ⟨7, (by decide), rfl, ?_⟩)
    refine ⟨⟨7, (by decide), rfl⟩, ?_⟩
    refine Call_wp (lv := [some (vr 4113)]) (by decide) ckJ0_coder_7d493 [] rfl rfl ?_
    refine ⟨fun c => absurd c (show (¬ ((1 : Int) = 0)) from by decide), fun _ => ?_⟩
    refine ⟨7, (by decide), rfl, ?_⟩
    refine ⟨rfl, (by decide), ?_⟩
    refine ⟨rfl, ?_⟩
    refine ⟨fun c => absurd c (show (¬ ((1 : Int) ≤ 0)) from by decide), fun _ => ?_⟩
    refine ⟨_, rfl, (by decide), ?_⟩
    refine ⟨⟨_, rfl, (by decide)⟩, ?_⟩
    have n5 : (wr ((I 218 2) + 0)) = (I 218 2) + 0 := wr_id (show -2147483648 ≤ ((I 218 2) + 0 : Int) ∧ ((I 218 2) + 0 : Int) < 2147483648 from by omega)
    refine c_byteAt (v0 := (wr ((I 218 2) + 0))) hF hR hx (fun vr6 hr7 => ?_)
    have hr7 : -2147483648 ≤ vr6 ∧ vr6 < 2147483648 := hr7
    refine ⟨⟨7, (by decide), rfl⟩, ?_⟩
    refine Call_wp (lv := [some (vr 4113), some (vi 0)]) (by decide) ckJ0_charAt_5068e [] rfl rfl ?_
    refine ⟨⟨7, (by decide), rfl⟩, ?_⟩
    refine Call_wp (lv := [some (vr 4113)]) (by decide) ckJ0_isLatin1_aae02 [] rfl rfl ?_
    refine ⟨fun c => absurd c (show (¬ ((1 : Int) = 0)) from by decide), fun _ => ?_⟩
    refine ⟨7, (by decide), rfl, ?_⟩
    refine ⟨fun c => absurd (show ((0 : Int) = 0) from by decide) c, fun _ => ?_⟩
    refine ⟨rfl, (by decide), ?_⟩
    refine ⟨fun c => absurd c (show (¬ ((1 : Int) = 0)) from by decide), fun _ => ?_⟩
    refine ⟨7, (by decide), rfl, ?_⟩
    refine Call_wp (lv := [some (vr 4143), some (vi 0)]) (by decide) ckJ1_charAt_3b067 [] rfl rfl ?_
    refine Or.inr (Or.inr ⟨7, (by decide), rfl, ?_⟩)
    refine j_check (i := 0) (n := 1) (by omega) ?_
    refine ⟨7, (by decide), rfl, (by decide), (by decide), ?_⟩
    refine ⟨rfl, (by decide), ?_⟩
    refine ⟨rfl, (by decide), ?_⟩
    refine ⟨fun (c8 : ((vr6 : Int) = 44)) => ?_, fun (c8 : (¬ ((vr6 : Int) = 44))) => ?_⟩
    ·
      refine ⟨⟨7, (by decide), rfl⟩, ?_⟩
      refine Call_wp (lv := [some (vr 4113)]) (by decide) ckJ0_length_8abf5 [] rfl rfl ?_
      refine ⟨7, (by decide), rfl, ?_⟩
      refine Or.inr (Or.inr ⟨7, (by decide), rfl, ?_⟩)
      refine ⟨⟨7, (by decide), rfl⟩, ?_⟩
      refine Call_wp (lv := [some (vr 4113)]) (by decide) ckJ0_coder_7d493 [] rfl rfl ?_
      refine ⟨fun c => absurd c (show (¬ ((1 : Int) = 0)) from by decide), fun _ => ?_⟩
      refine ⟨7, (by decide), rfl, ?_⟩
      refine ⟨rfl, (by decide), ?_⟩
      refine ⟨rfl, ?_⟩
      refine ⟨fun _ => ?_, fun c => absurd (show ((1 : Int) ≤ 1) from by decide) c⟩
      exact ⟨rfl, (by decide), fun hv hA' => hQ _ (hv _ rfl) (show 0 ≤ 1 ∧ 1 ≤ 1 from by first | omega | (simp only [wr, wl] at *; omega))⟩
    ·
      exact ⟨rfl, (by decide), fun hv hA' => hQ _ (hv _ rfl) (show 0 ≤ 0 ∧ 0 ≤ 1 from by first | omega | (simp only [wr, wl] at *; omega))⟩
  ·
    exact ⟨rfl, (by decide), fun hv hA' => hQ _ (hv _ rfl) (show 0 ≤ 0 ∧ 0 ≤ 1 from by first | omega | (simp only [wr, wl] at *; omega))⟩
theorem c_mark8 (hF : FS F) (hR : Rg I) (hx : F 218 0 = some 5) (hQ : ∀ r : Int, iR r → (0 ≤ r ∧ r ≤ 1) → Q (some (vi r)) F I) : CallN G (d + 4) kX9_isMark [vr 218, vr 4114] NP F I Q := by
  refine CallN_in (fun hok hA => CallN_out ?_)
  refine Call_wp (lv := [some (vr 218), some (vr 4114), none]) (by decide) ckX9_isMark [] rfl rfl ?_
  refine ⟨_, rfl, (by decide), ?_⟩
  refine ⟨_, rfl, (by decide), ?_⟩
  refine ⟨⟨8, (by decide), rfl⟩, ?_⟩
  refine Call_wp (lv := [some (vr 4114)]) (by decide) ckJ0_length_8abf5 [] rfl rfl ?_
  refine ⟨8, (by decide), rfl, ?_⟩
  refine Or.inr (Or.inr ⟨8, (by decide), rfl, ?_⟩)
  refine ⟨⟨8, (by decide), rfl⟩, ?_⟩
  refine Call_wp (lv := [some (vr 4114)]) (by decide) ckJ0_coder_7d493 [] rfl rfl ?_
  refine ⟨fun c => absurd c (show (¬ ((1 : Int) = 0)) from by decide), fun _ => ?_⟩
  refine ⟨8, (by decide), rfl, ?_⟩
  refine ⟨rfl, (by decide), ?_⟩
  refine ⟨rfl, ?_⟩
  have a1 : -2147483648 ≤ (I 218 3) ∧ (I 218 3) < 2147483648 := hA.1 _ _
  have a2 : -2147483648 ≤ (I 218 2) ∧ (I 218 2) < 2147483648 := hA.1 _ _
  have n3 : -2147483648 ≤ (wr ((I 218 3) - (I 218 2))) ∧ (wr ((I 218 3) - (I 218 2))) < 2147483648 := wr_R _
  refine ⟨fun (c4 : (((wr ((I 218 3) - (I 218 2))) : Int) = 1)) => ?_, fun (c4 : (¬ (((wr ((I 218 3) - (I 218 2))) : Int) = 1))) => ?_⟩
  ·
    refine ⟨⟨8, (by decide), rfl⟩, ?_⟩
    refine Call_wp (lv := [some (vr 4114)]) (by decide) ckJ0_length_8abf5 [] rfl rfl ?_
    refine ⟨8, (by decide), rfl, ?_⟩
    refine Or.inr (Or.inr ⟨8, (by decide), rfl, ?_⟩)
    refine ⟨⟨8, (by decide), rfl⟩, ?_⟩
    refine Call_wp (lv := [some (vr 4114)]) (by decide) ckJ0_coder_7d493 [] rfl rfl ?_
    refine ⟨fun c => absurd c (show (¬ ((1 : Int) = 0)) from by decide), fun _ => ?_⟩
    refine ⟨8, (by decide), rfl, ?_⟩
    refine ⟨rfl, (by decide), ?_⟩
    refine ⟨rfl, ?_⟩
    refine ⟨fun c => absurd c (show (¬ ((1 : Int) ≤ 0)) from by decide), fun _ => ?_⟩
    refine ⟨_, rfl, (by decide), ?_⟩
    refine ⟨⟨_, rfl, (by decide)⟩, ?_⟩
    have n5 : (wr ((I 218 2) + 0)) = (I 218 2) + 0 := wr_id (show -2147483648 ≤ ((I 218 2) + 0 : Int) ∧ ((I 218 2) + 0 : Int) < 2147483648 from by omega)
    refine c_byteAt (v0 := (wr ((I 218 2) + 0))) hF hR hx (fun vr6 hr7 => ?_)
    have hr7 : -2147483648 ≤ vr6 ∧ vr6 < 2147483648 := hr7
    refine ⟨⟨8, (by decide), rfl⟩, ?_⟩
    refine Call_wp (lv := [some (vr 4114), some (vi 0)]) (by decide) ckJ0_charAt_5068e [] rfl rfl ?_
    refine ⟨⟨8, (by decide), rfl⟩, ?_⟩
    refine Call_wp (lv := [some (vr 4114)]) (by decide) ckJ0_isLatin1_aae02 [] rfl rfl ?_
    refine ⟨fun c => absurd c (show (¬ ((1 : Int) = 0)) from by decide), fun _ => ?_⟩
    refine ⟨8, (by decide), rfl, ?_⟩
    refine ⟨fun c => absurd (show ((0 : Int) = 0) from by decide) c, fun _ => ?_⟩
    refine ⟨rfl, (by decide), ?_⟩
    refine ⟨fun c => absurd c (show (¬ ((1 : Int) = 0)) from by decide), fun _ => ?_⟩
    refine ⟨8, (by decide), rfl, ?_⟩
    refine Call_wp (lv := [some (vr 4144), some (vi 0)]) (by decide) ckJ1_charAt_3b067 [] rfl rfl ?_
    refine Or.inr (Or.inr ⟨8, (by decide), rfl, ?_⟩)
    refine j_check (i := 0) (n := 1) (by omega) ?_
    refine ⟨8, (by decide), rfl, (by decide), (by decide), ?_⟩
    refine ⟨rfl, (by decide), ?_⟩
    refine ⟨rfl, (by decide), ?_⟩
    refine ⟨fun (c8 : ((vr6 : Int) = 59)) => ?_, fun (c8 : (¬ ((vr6 : Int) = 59))) => ?_⟩
    ·
      refine ⟨⟨8, (by decide), rfl⟩, ?_⟩
      refine Call_wp (lv := [some (vr 4114)]) (by decide) ckJ0_length_8abf5 [] rfl rfl ?_
      refine ⟨8, (by decide), rfl, ?_⟩
      refine Or.inr (Or.inr ⟨8, (by decide), rfl, ?_⟩)
      refine ⟨⟨8, (by decide), rfl⟩, ?_⟩
      refine Call_wp (lv := [some (vr 4114)]) (by decide) ckJ0_coder_7d493 [] rfl rfl ?_
      refine ⟨fun c => absurd c (show (¬ ((1 : Int) = 0)) from by decide), fun _ => ?_⟩
      refine ⟨8, (by decide), rfl, ?_⟩
      refine ⟨rfl, (by decide), ?_⟩
      refine ⟨rfl, ?_⟩
      refine ⟨fun _ => ?_, fun c => absurd (show ((1 : Int) ≤ 1) from by decide) c⟩
      exact ⟨rfl, (by decide), fun hv hA' => hQ _ (hv _ rfl) (show 0 ≤ 1 ∧ 1 ≤ 1 from by first | omega | (simp only [wr, wl] at *; omega))⟩
    ·
      exact ⟨rfl, (by decide), fun hv hA' => hQ _ (hv _ rfl) (show 0 ≤ 0 ∧ 0 ≤ 1 from by first | omega | (simp only [wr, wl] at *; omega))⟩
  ·
    exact ⟨rfl, (by decide), fun hv hA' => hQ _ (hv _ rfl) (show 0 ≤ 0 ∧ 0 ≤ 1 from by first | omega | (simp only [wr, wl] at *; omega))⟩
theorem c_next_l3 (hF : FS F) (hR : Rg I) (hx : F 218 0 = some 5) (hQ : ∀ (I' : pI), Rg I' → (∀ k j, ¬ (k = 218 ∧ 2 ≤ j) → I' k j = I k j) → Q none F I') : ∀ (mz : Nat) (J : pI), Rg J → (∀ k j, ¬ (k = 218 ∧ 2 ≤ j) → J k j = I k j) → ((J 218 1) = I 218 1) → ((J 218 1) - (J 218 3)).toNat < mz → GoN G (d + 2) kX9_next NP NP 119 [some (vr 218)] [] F J Q := by
  intro mz
  induction mz with
  | zero => intro  J hJ hV _ h; exact absurd h (Nat.not_lt_zero _)
  | succ mz ih =>
    intro  J hJ hV c100 hm
    refine GoN_in (fun hok hA => ?_)
    have a1 : -2147483648 ≤ (J 218 3) ∧ (J 218 3) < 2147483648 := hA.1 _ _
    have u2 : (J 218 1) = (I 218 1) := hV _ _ (by first | omega | decide)
    have a3 : -2147483648 ≤ (J 218 1) ∧ (J 218 1) < 2147483648 := hA.1 _ _
    refine Go_wp (by decide) ckX9_next [119] ?_
    refine ⟨_, rfl, (by decide), ?_⟩
    refine ⟨_, rfl, (by decide), ?_⟩
    refine ⟨fun (c4 : (((J 218 1) : Int) ≤ (J 218 3))) => ?_, fun (c4 : (¬ (((J 218 1) : Int) ≤ (J 218 3)))) => ?_⟩
    ·
      exact ⟨rfl, hQ _ hJ (fun ka ja hk => (hV ka ja (by omega)))⟩
    ·
      refine ⟨_, rfl, (by decide), ?_⟩
      refine ⟨⟨_, rfl, (by decide)⟩, ?_⟩
      refine c_isDigit (v0 := (J 218 3)) hF hJ hx (fun vr5 hr6 q7 => ?_)
      have hr6 : -2147483648 ≤ vr5 ∧ vr5 < 2147483648 := hr6
      have q7 : 0 ≤ vr5 ∧ vr5 ≤ 1 := q7
      refine ⟨fun (c8 : ((vr5 : Int) = 0)) => ?_, fun (c8 : (¬ ((vr5 : Int) = 0))) => ?_⟩
      ·
        exact ⟨rfl, hQ _ hJ (fun ka ja hk => (hV ka ja (by omega)))⟩
      ·
        refine ⟨_, rfl, (by decide), ?_⟩
        refine ⟨_, rfl, (by decide), ?_⟩
        have n9 : (wr ((J 218 3) + 1)) = (J 218 3) + 1 := wr_id (show -2147483648 ≤ ((J 218 3) + 1 : Int) ∧ ((J 218 3) + 1 : Int) < 2147483648 from by omega)
        exact ih  (uI J 218 3 (wr ((J 218 3) + 1))) (Rg.u hJ (Pr_f rfl)) (fun ka ja hk => ((uI_o (show ¬ (ka = 218 ∧ ja = 3) from by omega))).trans ((hV ka ja (by omega)))) (show (J 218 1) = I 218 1 from by first | omega | (simp only [wr, wl] at *; omega)) (show ((J 218 1) - (wr ((J 218 3) + 1))).toNat < mz from by omega)
theorem c_next_l2 (hF : FS F) (hR : Rg I) (hx : F 218 0 = some 5) (hQ : ∀ (I' : pI), Rg I' → (∀ k j, ¬ (k = 218 ∧ 2 ≤ j) → I' k j = I k j) → Q none F I') : ∀ (mz : Nat) (J : pI), Rg J → (∀ k j, ¬ (k = 218 ∧ 2 ≤ j) → J k j = I k j) → ((J 218 1) = I 218 1) → ((J 218 1) - (J 218 3)).toNat < mz → GoN G (d + 2) kX9_next NP NP 73 [some (vr 218)] [] F J Q := by
  intro mz
  induction mz with
  | zero => intro  J hJ hV _ h; exact absurd h (Nat.not_lt_zero _)
  | succ mz ih =>
    intro  J hJ hV c100 hm
    refine GoN_in (fun hok hA => ?_)
    have a1 : -2147483648 ≤ (J 218 3) ∧ (J 218 3) < 2147483648 := hA.1 _ _
    have u2 : (J 218 1) = (I 218 1) := hV _ _ (by first | omega | decide)
    have a3 : -2147483648 ≤ (J 218 1) ∧ (J 218 1) < 2147483648 := hA.1 _ _
    refine Go_wp (by decide) ckX9_next [73] ?_
    refine ⟨_, rfl, (by decide), ?_⟩
    refine ⟨_, rfl, (by decide), ?_⟩
    refine ⟨fun (c4 : (((J 218 1) : Int) ≤ (J 218 3))) => ?_, fun (c4 : (¬ (((J 218 1) : Int) ≤ (J 218 3)))) => ?_⟩
    ·
      exact ⟨rfl, hQ _ hJ (fun ka ja hk => (hV ka ja (by omega)))⟩
    ·
      refine ⟨_, rfl, (by decide), ?_⟩
      refine ⟨⟨_, rfl, (by decide)⟩, ?_⟩
      refine c_isLetter (v0 := (J 218 3)) hF hJ hx (fun vr5 hr6 q7 => ?_)
      have hr6 : -2147483648 ≤ vr5 ∧ vr5 < 2147483648 := hr6
      have q7 : 0 ≤ vr5 ∧ vr5 ≤ 1 := q7
      refine ⟨fun (c8 : ((vr5 : Int) = 0)) => ?_, fun (c8 : (¬ ((vr5 : Int) = 0))) => ?_⟩
      ·
        exact ⟨rfl, hQ _ hJ (fun ka ja hk => (hV ka ja (by omega)))⟩
      ·
        refine ⟨_, rfl, (by decide), ?_⟩
        refine ⟨_, rfl, (by decide), ?_⟩
        have n9 : (wr ((J 218 3) + 1)) = (J 218 3) + 1 := wr_id (show -2147483648 ≤ ((J 218 3) + 1 : Int) ∧ ((J 218 3) + 1 : Int) < 2147483648 from by omega)
        exact ih  (uI J 218 3 (wr ((J 218 3) + 1))) (Rg.u hJ (Pr_f rfl)) (fun ka ja hk => ((uI_o (show ¬ (ka = 218 ∧ ja = 3) from by omega))).trans ((hV ka ja (by omega)))) (show (J 218 1) = I 218 1 from by first | omega | (simp only [wr, wl] at *; omega)) (show ((J 218 1) - (wr ((J 218 3) + 1))).toNat < mz from by omega)
theorem c_next_l1 (hF : FS F) (hR : Rg I) (hx : F 218 0 = some 5) (hQ : ∀ (I' : pI), Rg I' → (∀ k j, ¬ (k = 218 ∧ 2 ≤ j) → I' k j = I k j) → Q none F I') : ∀ (mz : Nat) (J : pI), Rg J → (∀ k j, ¬ (k = 218 ∧ 2 ≤ j) → J k j = I k j) → ((J 218 1) = I 218 1) → ((J 218 1) - (J 218 2)).toNat < mz → GoN G (d + 2) kX9_next NP NP 8 [some (vr 218)] [] F J Q := by
  intro mz
  induction mz with
  | zero => intro  J hJ hV _ h; exact absurd h (Nat.not_lt_zero _)
  | succ mz ih =>
    intro  J hJ hV c100 hm
    refine GoN_in (fun hok hA => ?_)
    have a1 : -2147483648 ≤ (J 218 2) ∧ (J 218 2) < 2147483648 := hA.1 _ _
    have u2 : (J 218 1) = (I 218 1) := hV _ _ (by first | omega | decide)
    have a3 : -2147483648 ≤ (J 218 1) ∧ (J 218 1) < 2147483648 := hA.1 _ _
    refine Go_wp (by decide) ckX9_next [8, 73, 119] ?_
    refine ⟨_, rfl, (by decide), ?_⟩
    refine ⟨_, rfl, (by decide), ?_⟩
    refine ⟨fun (c4 : (((J 218 1) : Int) ≤ (J 218 2))) => ?_, fun (c4 : (¬ (((J 218 1) : Int) ≤ (J 218 2)))) => ?_⟩
    ·
      refine ⟨_, rfl, (by decide), ?_⟩
      refine ⟨_, rfl, (by decide), ?_⟩
      have n5 : -2147483648 ≤ (wr ((J 218 2) + 1)) ∧ (wr ((J 218 2) + 1)) < 2147483648 := wr_R _
      refine j_min (fun w6 h7 h8 h9 => ?_)
      refine ⟨_, rfl, (by decide), ?_⟩
      refine ⟨_, rfl, (by decide), ?_⟩
      refine ⟨⟨_, rfl, (by decide)⟩, ?_⟩
      refine c_isLetter (v0 := (J 218 2)) hF (Rg.u hJ (Pr_f rfl)) hx (fun vr10 hr11 q12 => ?_)
      have hr11 : -2147483648 ≤ vr10 ∧ vr10 < 2147483648 := hr11
      have q12 : 0 ≤ vr10 ∧ vr10 ≤ 1 := q12
      refine ⟨fun (c13 : ((vr10 : Int) = 0)) => ?_, fun (c13 : (¬ ((vr10 : Int) = 0))) => ?_⟩
      ·
        refine ⟨_, rfl, (by decide), ?_⟩
        refine ⟨⟨_, rfl, (by decide)⟩, ?_⟩
        refine c_isDigit (v0 := (J 218 2)) hF (Rg.u hJ (Pr_f rfl)) hx (fun vr14 hr15 q16 => ?_)
        have hr15 : -2147483648 ≤ vr14 ∧ vr14 < 2147483648 := hr15
        have q16 : 0 ≤ vr14 ∧ vr14 ≤ 1 := q16
        refine ⟨fun (c17 : ((vr14 : Int) = 0)) => ?_, fun (c17 : (¬ ((vr14 : Int) = 0))) => ?_⟩
        ·
          exact ⟨rfl, hQ _ (Rg.u hJ (Pr_f rfl)) (fun ka ja hk => ((uI_o (show ¬ (ka = 218 ∧ ja = 3) from by omega))).trans ((hV ka ja (by omega))))⟩
        ·
          refine c_next_l3 hF hR hx hQ _  (uI J 218 3 w6) (Rg.u hJ (Pr_f rfl)) (fun ka ja hk => ((uI_o (show ¬ (ka = 218 ∧ ja = 3) from by omega))).trans ((hV ka ja (by omega)))) (show (J 218 1) = I 218 1 from by first | omega | (simp only [wr, wl] at *; omega)) (Nat.lt_succ_self _)
      ·
        refine c_next_l2 hF hR hx hQ _  (uI J 218 3 w6) (Rg.u hJ (Pr_f rfl)) (fun ka ja hk => ((uI_o (show ¬ (ka = 218 ∧ ja = 3) from by omega))).trans ((hV ka ja (by omega)))) (show (J 218 1) = I 218 1 from by first | omega | (simp only [wr, wl] at *; omega)) (Nat.lt_succ_self _)
    ·
      refine ⟨_, rfl, (by decide), ?_⟩
      refine ⟨⟨_, rfl, (by decide)⟩, ?_⟩
      refine c_byteAt (v0 := (J 218 2)) hF hJ hx (fun vr18 hr19 => ?_)
      have hr19 : -2147483648 ≤ vr18 ∧ vr18 < 2147483648 := hr19
      refine ⟨fun (c20 : (¬ (vr18 : Int) = 32)) => ?_, fun (c20 : ((vr18 : Int) = 32)) => ?_⟩
      ·
        refine ⟨_, rfl, (by decide), ?_⟩
        refine ⟨_, rfl, (by decide), ?_⟩
        have n21 : (wr ((J 218 2) + 1)) = (J 218 2) + 1 := wr_id (show -2147483648 ≤ ((J 218 2) + 1 : Int) ∧ ((J 218 2) + 1 : Int) < 2147483648 from by omega)
        refine j_min (fun w22 h23 h24 h25 => ?_)
        refine ⟨_, rfl, (by decide), ?_⟩
        refine ⟨_, rfl, (by decide), ?_⟩
        refine ⟨⟨_, rfl, (by decide)⟩, ?_⟩
        refine c_isLetter (v0 := (J 218 2)) hF (Rg.u hJ (Pr_f rfl)) hx (fun vr26 hr27 q28 => ?_)
        have hr27 : -2147483648 ≤ vr26 ∧ vr26 < 2147483648 := hr27
        have q28 : 0 ≤ vr26 ∧ vr26 ≤ 1 := q28
        refine ⟨fun (c29 : ((vr26 : Int) = 0)) => ?_, fun (c29 : (¬ ((vr26 : Int) = 0))) => ?_⟩
        ·
          refine ⟨_, rfl, (by decide), ?_⟩
          refine ⟨⟨_, rfl, (by decide)⟩, ?_⟩
          refine c_isDigit (v0 := (J 218 2)) hF (Rg.u hJ (Pr_f rfl)) hx (fun vr30 hr31 q32 => ?_)
          have hr31 : -2147483648 ≤ vr30 ∧ vr30 < 2147483648 := hr31
          have q32 : 0 ≤ vr30 ∧ vr30 ≤ 1 := q32
          refine ⟨fun (c33 : ((vr30 : Int) = 0)) => ?_, fun (c33 : (¬ ((vr30 : Int) = 0))) => ?_⟩
          ·
            exact ⟨rfl, hQ _ (Rg.u hJ (Pr_f rfl)) (fun ka ja hk => ((uI_o (show ¬ (ka = 218 ∧ ja = 3) from by omega))).trans ((hV ka ja (by omega))))⟩
          ·
            refine c_next_l3 hF hR hx hQ _  (uI J 218 3 w22) (Rg.u hJ (Pr_f rfl)) (fun ka ja hk => ((uI_o (show ¬ (ka = 218 ∧ ja = 3) from by omega))).trans ((hV ka ja (by omega)))) (show (J 218 1) = I 218 1 from by first | omega | (simp only [wr, wl] at *; omega)) (Nat.lt_succ_self _)
        ·
          refine c_next_l2 hF hR hx hQ _  (uI J 218 3 w22) (Rg.u hJ (Pr_f rfl)) (fun ka ja hk => ((uI_o (show ¬ (ka = 218 ∧ ja = 3) from by omega))).trans ((hV ka ja (by omega)))) (show (J 218 1) = I 218 1 from by first | omega | (simp only [wr, wl] at *; omega)) (Nat.lt_succ_self _)
      ·
        refine ⟨_, rfl, (by decide), ?_⟩
        refine ⟨_, rfl, (by decide), ?_⟩
        have n34 : (wr ((J 218 2) + 1)) = (J 218 2) + 1 := wr_id (show -2147483648 ≤ ((J 218 2) + 1 : Int) ∧ ((J 218 2) + 1 : Int) < 2147483648 from by omega)
        exact ih  (uI J 218 2 (wr ((J 218 2) + 1))) (Rg.u hJ (Pr_f rfl)) (fun ka ja hk => ((uI_o (show ¬ (ka = 218 ∧ ja = 2) from by omega))).trans ((hV ka ja (by omega)))) (show (J 218 1) = I 218 1 from by first | omega | (simp only [wr, wl] at *; omega)) (show ((J 218 1) - (wr ((J 218 2) + 1))).toNat < mz from by omega)
theorem c_next (hF : FS F) (hR : Rg I) (hx : F 218 0 = some 5) (hQ : ∀ (I' : pI), Rg I' → AR I' → (∀ k j, ¬ (k = 218 ∧ 2 ≤ j) → I' k j = I k j) → Q none F I') : CallN G (d + 2) kX9_next [vr 218] NP F I Q := by
  refine CallN_in (fun hok hA => CallN_out ?_)
  refine Call_wp (lv := [some (vr 218)]) (by decide) ckX9_next [8] rfl rfl ?_
  refine ⟨_, rfl, (by decide), ?_⟩
  refine ⟨_, rfl, (by decide), ?_⟩
  have a1 : -2147483648 ≤ (I 218 3) ∧ (I 218 3) < 2147483648 := hA.1 _ _
  have a2 : -2147483648 ≤ (I 218 1) ∧ (I 218 1) < 2147483648 := hA.1 _ _
  refine c_next_l1 hF hR hx (fun I' g1 g2 hv hA' => hQ _ g1 hA' g2) _  (uI I 218 2 (I 218 3)) (Rg.u hR (Pr_f rfl)) (fun ka ja hk => (uI_o (show ¬ (ka = 218 ∧ ja = 2) from by omega))) (show (I 218 1) = I 218 1 from by first | omega | (simp only [wr, wl] at *; omega)) (Nat.lt_succ_self _)
theorem c_actHere (hF : FS F) (hR : Rg I) (hx : F 218 0 = some 5) (hQ : ∀ r : Int, iR r → (-1 ≤ r ∧ r ≤ 5) → Q (some (vi r)) F I) : CallN G (d + 5) kX9_actHere [vr 218] NP F I Q := by
  refine CallN_in (fun hok hA => CallN_out ?_)
  refine Call_wp (lv := [some (vr 218), none]) (by decide) ckX9_actHere [] rfl rfl ?_
  refine ⟨fun c => absurd c (show (¬ ((5 : Int) < 0)) from by decide), fun _ => ?_⟩
  refine Call_wp (lv := [some (vi 0)]) (by decide) ckX9_wordOf [] rfl rfl ?_
  refine ⟨fun _ => ?_, fun c => absurd (show ((0 : Int) = 0) from by decide) c⟩
  refine ⟨rfl, ?_⟩
  refine ⟨⟨_, rfl, (by decide)⟩, ?_⟩
  refine c_mark1  hF hR hx (fun vr1 hr2 q3 => ?_)
  have hr2 : -2147483648 ≤ vr1 ∧ vr1 < 2147483648 := hr2
  have q3 : 0 ≤ vr1 ∧ vr1 ≤ 1 := q3
  refine ⟨fun (c4 : ((vr1 : Int) = 0)) => ?_, fun (c4 : (¬ ((vr1 : Int) = 0))) => ?_⟩
  ·
    refine ⟨fun c => absurd c (show (¬ ((5 : Int) < 1)) from by decide), fun _ => ?_⟩
    refine Call_wp (lv := [some (vi 1)]) (by decide) ckX9_wordOf [] rfl rfl ?_
    refine ⟨fun c => absurd c (show (¬ ((1 : Int) = 0)) from by decide), fun _ => ?_⟩
    refine ⟨fun _ => ?_, fun c => absurd (show ((1 : Int) = 1) from by decide) c⟩
    refine ⟨rfl, ?_⟩
    refine ⟨⟨_, rfl, (by decide)⟩, ?_⟩
    refine c_mark2  hF hR hx (fun vr5 hr6 q7 => ?_)
    have hr6 : -2147483648 ≤ vr5 ∧ vr5 < 2147483648 := hr6
    have q7 : 0 ≤ vr5 ∧ vr5 ≤ 1 := q7
    refine ⟨fun (c8 : ((vr5 : Int) = 0)) => ?_, fun (c8 : (¬ ((vr5 : Int) = 0))) => ?_⟩
    ·
      refine ⟨fun c => absurd c (show (¬ ((5 : Int) < 2)) from by decide), fun _ => ?_⟩
      refine Call_wp (lv := [some (vi 2)]) (by decide) ckX9_wordOf [] rfl rfl ?_
      refine ⟨fun c => absurd c (show (¬ ((2 : Int) = 0)) from by decide), fun _ => ?_⟩
      refine ⟨fun c => absurd c (show (¬ ((2 : Int) = 1)) from by decide), fun _ => ?_⟩
      refine ⟨fun _ => ?_, fun c => absurd (show ((2 : Int) = 2) from by decide) c⟩
      refine ⟨rfl, ?_⟩
      refine ⟨⟨_, rfl, (by decide)⟩, ?_⟩
      refine c_mark3  hF hR hx (fun vr9 hr10 q11 => ?_)
      have hr10 : -2147483648 ≤ vr9 ∧ vr9 < 2147483648 := hr10
      have q11 : 0 ≤ vr9 ∧ vr9 ≤ 1 := q11
      refine ⟨fun (c12 : ((vr9 : Int) = 0)) => ?_, fun (c12 : (¬ ((vr9 : Int) = 0))) => ?_⟩
      ·
        refine ⟨fun c => absurd c (show (¬ ((5 : Int) < 3)) from by decide), fun _ => ?_⟩
        refine Call_wp (lv := [some (vi 3)]) (by decide) ckX9_wordOf [] rfl rfl ?_
        refine ⟨fun c => absurd c (show (¬ ((3 : Int) = 0)) from by decide), fun _ => ?_⟩
        refine ⟨fun c => absurd c (show (¬ ((3 : Int) = 1)) from by decide), fun _ => ?_⟩
        refine ⟨fun c => absurd c (show (¬ ((3 : Int) = 2)) from by decide), fun _ => ?_⟩
        refine ⟨fun _ => ?_, fun c => absurd (show ((3 : Int) = 3) from by decide) c⟩
        refine ⟨rfl, ?_⟩
        refine ⟨⟨_, rfl, (by decide)⟩, ?_⟩
        refine c_mark4  hF hR hx (fun vr13 hr14 q15 => ?_)
        have hr14 : -2147483648 ≤ vr13 ∧ vr13 < 2147483648 := hr14
        have q15 : 0 ≤ vr13 ∧ vr13 ≤ 1 := q15
        refine ⟨fun (c16 : ((vr13 : Int) = 0)) => ?_, fun (c16 : (¬ ((vr13 : Int) = 0))) => ?_⟩
        ·
          refine ⟨fun c => absurd c (show (¬ ((5 : Int) < 4)) from by decide), fun _ => ?_⟩
          refine Call_wp (lv := [some (vi 4)]) (by decide) ckX9_wordOf [] rfl rfl ?_
          refine ⟨fun c => absurd c (show (¬ ((4 : Int) = 0)) from by decide), fun _ => ?_⟩
          refine ⟨fun c => absurd c (show (¬ ((4 : Int) = 1)) from by decide), fun _ => ?_⟩
          refine ⟨fun c => absurd c (show (¬ ((4 : Int) = 2)) from by decide), fun _ => ?_⟩
          refine ⟨fun c => absurd c (show (¬ ((4 : Int) = 3)) from by decide), fun _ => ?_⟩
          refine ⟨fun _ => ?_, fun c => absurd (show ((4 : Int) = 4) from by decide) c⟩
          refine ⟨rfl, ?_⟩
          refine ⟨⟨_, rfl, (by decide)⟩, ?_⟩
          refine c_mark5  hF hR hx (fun vr17 hr18 q19 => ?_)
          have hr18 : -2147483648 ≤ vr17 ∧ vr17 < 2147483648 := hr18
          have q19 : 0 ≤ vr17 ∧ vr17 ≤ 1 := q19
          refine ⟨fun (c20 : ((vr17 : Int) = 0)) => ?_, fun (c20 : (¬ ((vr17 : Int) = 0))) => ?_⟩
          ·
            refine ⟨fun c => absurd c (show (¬ ((5 : Int) < 5)) from by decide), fun _ => ?_⟩
            refine Call_wp (lv := [some (vi 5)]) (by decide) ckX9_wordOf [] rfl rfl ?_
            refine ⟨fun c => absurd c (show (¬ ((5 : Int) = 0)) from by decide), fun _ => ?_⟩
            refine ⟨fun c => absurd c (show (¬ ((5 : Int) = 1)) from by decide), fun _ => ?_⟩
            refine ⟨fun c => absurd c (show (¬ ((5 : Int) = 2)) from by decide), fun _ => ?_⟩
            refine ⟨fun c => absurd c (show (¬ ((5 : Int) = 3)) from by decide), fun _ => ?_⟩
            refine ⟨fun c => absurd c (show (¬ ((5 : Int) = 4)) from by decide), fun _ => ?_⟩
            refine ⟨rfl, ?_⟩
            refine ⟨⟨_, rfl, (by decide)⟩, ?_⟩
            refine c_mark6  hF hR hx (fun vr21 hr22 q23 => ?_)
            have hr22 : -2147483648 ≤ vr21 ∧ vr21 < 2147483648 := hr22
            have q23 : 0 ≤ vr21 ∧ vr21 ≤ 1 := q23
            refine ⟨fun (c24 : ((vr21 : Int) = 0)) => ?_, fun (c24 : (¬ ((vr21 : Int) = 0))) => ?_⟩
            ·
              refine ⟨fun _ => ?_, fun c => absurd (show ((5 : Int) < 6) from by decide) c⟩
              exact ⟨rfl, fun hv hA' => hQ _ (hv _ rfl) (show -1 ≤ (-1) ∧ (-1) ≤ 5 from by first | omega | (simp only [wr, wl] at *; omega))⟩
            ·
              exact ⟨rfl, fun hv hA' => hQ _ (hv _ rfl) (show -1 ≤ 5 ∧ 5 ≤ 5 from by first | omega | (simp only [wr, wl] at *; omega))⟩
          ·
            exact ⟨rfl, fun hv hA' => hQ _ (hv _ rfl) (show -1 ≤ 4 ∧ 4 ≤ 5 from by first | omega | (simp only [wr, wl] at *; omega))⟩
        ·
          exact ⟨rfl, fun hv hA' => hQ _ (hv _ rfl) (show -1 ≤ 3 ∧ 3 ≤ 5 from by first | omega | (simp only [wr, wl] at *; omega))⟩
      ·
        exact ⟨rfl, fun hv hA' => hQ _ (hv _ rfl) (show -1 ≤ 2 ∧ 2 ≤ 5 from by first | omega | (simp only [wr, wl] at *; omega))⟩
    ·
      exact ⟨rfl, fun hv hA' => hQ _ (hv _ rfl) (show -1 ≤ 1 ∧ 1 ≤ 5 from by first | omega | (simp only [wr, wl] at *; omega))⟩
  ·
    exact ⟨rfl, fun hv hA' => hQ _ (hv _ rfl) (show -1 ≤ 0 ∧ 0 ≤ 5 from by first | omega | (simp only [wr, wl] at *; omega))⟩
theorem c_numb_l (hF : FS F) (hR : Rg I) (hx : F 218 0 = some 5) (hQ : ∀ (r : Int) , Q (some (vi r)) F I) : ∀ (mz : Nat) (v i : Int) , ((I 218 3) - i).toNat < mz → GoN G (d + 2) kX9_numberHere NP NP 33 [some (vr 218), some (vi v), some (vi i)] [] F I Q := by
  intro mz
  induction mz with
  | zero => intro v i h; exact absurd h (Nat.not_lt_zero _)
  | succ mz ih =>
    intro v i hm
    refine GoN_in (fun hok hA => ?_)
    have iiv : -2147483648 ≤ v ∧ v < 2147483648 := hok 1 _ rfl
    have iii : -2147483648 ≤ i ∧ i < 2147483648 := hok 2 _ rfl
    have a1 : -2147483648 ≤ (I 218 3) ∧ (I 218 3) < 2147483648 := hA.1 _ _
    refine Go_wp (by decide) ckX9_numberHere [33] ?_
    refine ⟨_, rfl, (by decide), ?_⟩
    refine ⟨fun (c2 : (((I 218 3) : Int) ≤ i)) => ?_, fun (c2 : (¬ (((I 218 3) : Int) ≤ i))) => ?_⟩
    ·
      exact ⟨rfl, hQ _⟩
    ·
      refine ⟨⟨_, rfl, (by decide)⟩, ?_⟩
      refine c_isDigit (v0 := i) hF hR hx (fun vr3 hr4 q5 => ?_)
      have hr4 : -2147483648 ≤ vr3 ∧ vr3 < 2147483648 := hr4
      have q5 : 0 ≤ vr3 ∧ vr3 ≤ 1 := q5
      refine ⟨fun (c6 : (¬ (vr3 : Int) = 0)) => ?_, fun (c6 : ((vr3 : Int) = 0)) => ?_⟩
      ·
        refine ⟨⟨_, rfl, (by decide)⟩, ?_⟩
        refine c_byteAt (v0 := i) hF hR hx (fun vr7 hr8 => ?_)
        have hr8 : -2147483648 ≤ vr7 ∧ vr7 < 2147483648 := hr8
        have n9 : -2147483648 ≤ (wr (10 * v)) ∧ (wr (10 * v)) < 2147483648 := wr_R _
        have n10 : -2147483648 ≤ (wr ((wr (10 * v)) + vr7)) ∧ (wr ((wr (10 * v)) + vr7)) < 2147483648 := wr_R _
        have n11 : -2147483648 ≤ (wr ((wr ((wr (10 * v)) + vr7)) - 48)) ∧ (wr ((wr ((wr (10 * v)) + vr7)) - 48)) < 2147483648 := wr_R _
        have n12 : (wr (i + 1)) = i + 1 := wr_id (show -2147483648 ≤ (i + 1 : Int) ∧ (i + 1 : Int) < 2147483648 from by omega)
        exact ih (wr ((wr ((wr (10 * v)) + vr7)) - 48)) (wr (i + 1))   (show ((I 218 3) - (wr (i + 1))).toNat < mz from by omega)
      ·
        exact ⟨rfl, hQ _⟩
theorem c_numb (hF : FS F) (hR : Rg I) (hx : F 218 0 = some 5) (hQ : ∀ r : Int, iR r → Q (some (vi r)) F I) : CallN G (d + 2) kX9_numberHere [vr 218] NP F I Q := by
  refine CallN_in (fun hok hA => CallN_out ?_)
  refine Call_wp (lv := [some (vr 218), none, none]) (by decide) ckX9_numberHere [33] rfl rfl ?_
  refine ⟨_, rfl, (by decide), ?_⟩
  refine ⟨_, rfl, (by decide), ?_⟩
  have a1 : -2147483648 ≤ (I 218 3) ∧ (I 218 3) < 2147483648 := hA.1 _ _
  have a2 : -2147483648 ≤ (I 218 2) ∧ (I 218 2) < 2147483648 := hA.1 _ _
  refine ⟨fun (c3 : (((I 218 3) : Int) ≤ (I 218 2))) => ?_, fun (c3 : (¬ (((I 218 3) : Int) ≤ (I 218 2)))) => ?_⟩
  ·
    exact ⟨rfl, fun hv hA' => hQ _ (hv _ rfl)⟩
  ·
    refine ⟨_, rfl, (by decide), ?_⟩
    refine ⟨_, rfl, (by decide), ?_⟩
    have n4 : -2147483648 ≤ (wr ((I 218 3) - (I 218 2))) ∧ (wr ((I 218 3) - (I 218 2))) < 2147483648 := wr_R _
    refine ⟨fun (c5 : (((wr ((I 218 3) - (I 218 2))) : Int) ≤ 4)) => ?_, fun (c5 : (¬ (((wr ((I 218 3) - (I 218 2))) : Int) ≤ 4))) => ?_⟩
    ·
      refine ⟨_, rfl, (by decide), ?_⟩
      refine c_numb_l hF hR hx (fun r hv hA' => hQ _ (hv _ rfl)) _ 0 (I 218 2)   (Nat.lt_succ_self _)
    ·
      exact ⟨rfl, fun hv hA' => hQ _ (hv _ rfl)⟩
theorem c_readPart (hF : FS F) (hR : Rg I) {v0 : Int} (hx : F 218 0 = some 5) (hQ : ∀ (r : Int) (I' : pI), Rg I' → AR I' → iR r → (∀ k j, ¬ ((k = 218 ∧ 2 ≤ j) ∨ (220 ≤ k ∧ k ≤ 222)) → I' k j = I k j) → (0 ≤ r ∧ r ≤ 1) → Q (some (vi r)) F I') : CallN G (d + 6) kX9_readPart [vr 218, vr 220, vi v0] NP F I Q := by
  refine CallN_in (fun hok hA => CallN_out ?_)
  have iv0 : -2147483648 ≤ v0 ∧ v0 < 2147483648 := hok (vi v0) (by simp)
  refine Call_wp (lv := [some (vr 218), some (vr 220), some (vi v0), none, none]) (by decide) ckX9_readPart [] rfl rfl ?_
  refine ⟨⟨_, rfl, (by decide)⟩, ?_⟩
  refine c_actHere  hF hR hx (fun vr1 hr2 q3 => ?_)
  have hr2 : -2147483648 ≤ vr1 ∧ vr1 < 2147483648 := hr2
  have q3 : -1 ≤ vr1 ∧ vr1 ≤ 5 := q3
  refine ⟨fun (c4 : ((0 : Int) ≤ vr1)) => ?_, fun (c4 : (¬ ((0 : Int) ≤ vr1))) => ?_⟩
  ·
    refine ⟨⟨_, rfl, (by decide)⟩, ?_⟩
    refine c_next  hF hR hx (fun I5 hR6 hA7 hW8 => ?_)
    refine ⟨fun (c9 : (¬ (vr1 : Int) = 4)) => ?_, fun (c9 : ((vr1 : Int) = 4)) => ?_⟩
    ·
      refine ⟨⟨_, rfl, (by decide)⟩, ?_⟩
      refine c_numb  hF hR6 hx (fun vr10 hr11 => ?_)
      have hr11 : -2147483648 ≤ vr10 ∧ vr10 < 2147483648 := hr11
      refine ⟨fun (c12 : ((0 : Int) ≤ vr10)) => ?_, fun (c12 : (¬ ((0 : Int) ≤ vr10))) => ?_⟩
      ·
        refine ⟨⟨_, rfl, (by decide)⟩, ?_⟩
        refine c_next  hF hR6 hx (fun I13 hR14 hA15 hW16 => ?_)
        refine ⟨⟨_, rfl, (by decide)⟩, ?_⟩
        refine Call_wp (lv := [some (vr 220), some (vi vr1), some (vi vr10), some (vi v0)]) (by decide) ckX5_add [] rfl rfl ?_
        refine ⟨_, rfl, (by decide), ?_⟩
        have u17 : (I5 220 4) = (I 220 4) := hW8 _ _ (by first | omega | decide)
        have a18 : -2147483648 ≤ (I 220 4) ∧ (I 220 4) < 2147483648 := hA.1 _ _
        have a19 : -2147483648 ≤ (I5 220 4) ∧ (I5 220 4) < 2147483648 := hA7.1 _ _
        have u20 : (I13 220 4) = (I5 220 4) := hW16 _ _ (by first | omega | decide)
        have a21 : -2147483648 ≤ (I13 220 4) ∧ (I13 220 4) < 2147483648 := hA15.1 _ _
        refine ⟨fun (c22 : (((I13 220 4) : Int) < 0)) => ?_, fun (c22 : (¬ (((I13 220 4) : Int) < 0))) => ?_⟩
        ·
          refine ⟨rfl, ?_⟩
          exact ⟨rfl, (by decide), fun hv hA' => hQ _ _ hR14 hA' (hv _ rfl) (fun ka ja hk => ((hW16 ka ja (by omega))).trans ((hW8 ka ja (by omega)))) (show 0 ≤ 1 ∧ 1 ≤ 1 from by first | omega | (simp only [wr, wl] at *; omega))⟩
        ·
          refine ⟨_, rfl, (by decide), ?_⟩
          refine ⟨fun (c23 : ((32 : Int) ≤ (I13 220 4))) => ?_, fun (c23 : (¬ ((32 : Int) ≤ (I13 220 4)))) => ?_⟩
          ·
            refine ⟨rfl, ?_⟩
            exact ⟨rfl, (by decide), fun hv hA' => hQ _ _ hR14 hA' (hv _ rfl) (fun ka ja hk => ((hW16 ka ja (by omega))).trans ((hW8 ka ja (by omega)))) (show 0 ≤ 1 ∧ 1 ≤ 1 from by first | omega | (simp only [wr, wl] at *; omega))⟩
          ·
            refine ⟨_, rfl, (by decide), ?_⟩
            refine fun w0 hw0 => ?_; obtain rfl : w0 = some 221 := hw0.symm.trans (FS.g hF rfl)
            refine ⟨_, rfl, (by decide), ?_⟩
            refine ⟨_, rfl, (by decide), (show (0 : Int) ≤ (I13 220 4) from by first | omega | (simp only [wr, wl] at *; omega)), (show (I13 220 4) < (32 : Int) from by first | omega | (simp only [wr, wl] at *; omega)), ?_⟩
            refine ⟨_, rfl, (by decide), ?_⟩
            refine fun w0 hw0 => ?_; obtain rfl : w0 = some 222 := hw0.symm.trans (FS.g hF rfl)
            refine ⟨_, rfl, (by decide), ?_⟩
            refine ⟨_, rfl, (by decide), (show (0 : Int) ≤ (I13 220 4) from by first | omega | (simp only [wr, wl] at *; omega)), (show (I13 220 4) < (32 : Int) from by first | omega | (simp only [wr, wl] at *; omega)), ?_⟩
            refine ⟨_, rfl, (by decide), ?_⟩
            refine ⟨_, rfl, (by decide), ?_⟩
            refine ⟨_, rfl, (by decide), ?_⟩
            have u24 : (I5 220 3) = (I 220 3) := hW8 _ _ (by first | omega | decide)
            have a25 : -2147483648 ≤ (I 220 3) ∧ (I 220 3) < 2147483648 := hA.1 _ _
            have a26 : -2147483648 ≤ (I5 220 3) ∧ (I5 220 3) < 2147483648 := hA7.1 _ _
            have u27 : (I13 220 3) = (I5 220 3) := hW16 _ _ (by first | omega | decide)
            have a28 : -2147483648 ≤ (I13 220 3) ∧ (I13 220 3) < 2147483648 := hA15.1 _ _
            refine ⟨fun (c29 : ((v0 : Int) = 0)) => ?_, fun (c29 : (¬ ((v0 : Int) = 0))) => ?_⟩
            ·
              refine ⟨_, rfl, (by decide), ?_⟩
              refine ⟨rfl, ?_⟩
              exact ⟨rfl, (by decide), fun hv hA' => hQ _ _ (Rg.u (Rg.u (Rg.u (Rg.u hR14 (Pr_p (k := 221) rfl _ _)) (Pr_p (k := 222) rfl _ _)) (Pr_f rfl)) (Pr_f rfl)) hA' (hv _ rfl) (fun ka ja hk => ((uI_o (show ¬ (ka = 220 ∧ ja = 3) from by omega))).trans (((uI_o (show ¬ (ka = 220 ∧ ja = 4) from by omega))).trans (((uI_o (show ¬ (ka = 222 ∧ ja = (Int.toNat (I13 220 4))) from by omega))).trans (((uI_o (show ¬ (ka = 221 ∧ ja = (Int.toNat (I13 220 4))) from by omega))).trans (((hW16 ka ja (by omega))).trans ((hW8 ka ja (by omega)))))))) (show 0 ≤ 1 ∧ 1 ≤ 1 from by first | omega | (simp only [wr, wl] at *; omega))⟩
            ·
              refine ⟨_, rfl, (by decide), ?_⟩
              refine ⟨rfl, ?_⟩
              exact ⟨rfl, (by decide), fun hv hA' => hQ _ _ (Rg.u (Rg.u (Rg.u (Rg.u hR14 (Pr_p (k := 221) rfl _ _)) (Pr_p (k := 222) rfl _ _)) (Pr_f rfl)) (Pr_f rfl)) hA' (hv _ rfl) (fun ka ja hk => ((uI_o (show ¬ (ka = 220 ∧ ja = 3) from by omega))).trans (((uI_o (show ¬ (ka = 220 ∧ ja = 4) from by omega))).trans (((uI_o (show ¬ (ka = 222 ∧ ja = (Int.toNat (I13 220 4))) from by omega))).trans (((uI_o (show ¬ (ka = 221 ∧ ja = (Int.toNat (I13 220 4))) from by omega))).trans (((hW16 ka ja (by omega))).trans ((hW8 ka ja (by omega)))))))) (show 0 ≤ 1 ∧ 1 ≤ 1 from by first | omega | (simp only [wr, wl] at *; omega))⟩
      ·
        exact ⟨rfl, (by decide), fun hv hA' => hQ _ _ hR6 hA' (hv _ rfl) (fun ka ja hk => (hW8 ka ja (by omega))) (show 0 ≤ 0 ∧ 0 ≤ 1 from by first | omega | (simp only [wr, wl] at *; omega))⟩
    ·
      refine ⟨⟨_, rfl, (by decide)⟩, ?_⟩
      refine Call_wp (lv := [some (vr 220), some (vi vr1), some (vi 0), some (vi v0)]) (by decide) ckX5_add [] rfl rfl ?_
      refine ⟨_, rfl, (by decide), ?_⟩
      have u30 : (I5 220 4) = (I 220 4) := hW8 _ _ (by first | omega | decide)
      have a31 : -2147483648 ≤ (I 220 4) ∧ (I 220 4) < 2147483648 := hA.1 _ _
      have a32 : -2147483648 ≤ (I5 220 4) ∧ (I5 220 4) < 2147483648 := hA7.1 _ _
      refine ⟨fun (c33 : (((I5 220 4) : Int) < 0)) => ?_, fun (c33 : (¬ (((I5 220 4) : Int) < 0))) => ?_⟩
      ·
        refine ⟨rfl, ?_⟩
        exact ⟨rfl, (by decide), fun hv hA' => hQ _ _ hR6 hA' (hv _ rfl) (fun ka ja hk => (hW8 ka ja (by omega))) (show 0 ≤ 1 ∧ 1 ≤ 1 from by first | omega | (simp only [wr, wl] at *; omega))⟩
      ·
        refine ⟨_, rfl, (by decide), ?_⟩
        refine ⟨fun (c34 : ((32 : Int) ≤ (I5 220 4))) => ?_, fun (c34 : (¬ ((32 : Int) ≤ (I5 220 4)))) => ?_⟩
        ·
          refine ⟨rfl, ?_⟩
          exact ⟨rfl, (by decide), fun hv hA' => hQ _ _ hR6 hA' (hv _ rfl) (fun ka ja hk => (hW8 ka ja (by omega))) (show 0 ≤ 1 ∧ 1 ≤ 1 from by first | omega | (simp only [wr, wl] at *; omega))⟩
        ·
          refine ⟨_, rfl, (by decide), ?_⟩
          refine fun w0 hw0 => ?_; obtain rfl : w0 = some 221 := hw0.symm.trans (FS.g hF rfl)
          refine ⟨_, rfl, (by decide), ?_⟩
          refine ⟨_, rfl, (by decide), (show (0 : Int) ≤ (I5 220 4) from by first | omega | (simp only [wr, wl] at *; omega)), (show (I5 220 4) < (32 : Int) from by first | omega | (simp only [wr, wl] at *; omega)), ?_⟩
          refine ⟨_, rfl, (by decide), ?_⟩
          refine fun w0 hw0 => ?_; obtain rfl : w0 = some 222 := hw0.symm.trans (FS.g hF rfl)
          refine ⟨_, rfl, (by decide), ?_⟩
          refine ⟨_, rfl, (by decide), (show (0 : Int) ≤ (I5 220 4) from by first | omega | (simp only [wr, wl] at *; omega)), (show (I5 220 4) < (32 : Int) from by first | omega | (simp only [wr, wl] at *; omega)), ?_⟩
          refine ⟨_, rfl, (by decide), ?_⟩
          refine ⟨_, rfl, (by decide), ?_⟩
          refine ⟨_, rfl, (by decide), ?_⟩
          have u35 : (I5 220 3) = (I 220 3) := hW8 _ _ (by first | omega | decide)
          have a36 : -2147483648 ≤ (I 220 3) ∧ (I 220 3) < 2147483648 := hA.1 _ _
          have a37 : -2147483648 ≤ (I5 220 3) ∧ (I5 220 3) < 2147483648 := hA7.1 _ _
          refine ⟨fun (c38 : ((v0 : Int) = 0)) => ?_, fun (c38 : (¬ ((v0 : Int) = 0))) => ?_⟩
          ·
            refine ⟨_, rfl, (by decide), ?_⟩
            refine ⟨rfl, ?_⟩
            exact ⟨rfl, (by decide), fun hv hA' => hQ _ _ (Rg.u (Rg.u (Rg.u (Rg.u hR6 (Pr_p (k := 221) rfl _ _)) (Pr_p (k := 222) rfl _ _)) (Pr_f rfl)) (Pr_f rfl)) hA' (hv _ rfl) (fun ka ja hk => ((uI_o (show ¬ (ka = 220 ∧ ja = 3) from by omega))).trans (((uI_o (show ¬ (ka = 220 ∧ ja = 4) from by omega))).trans (((uI_o (show ¬ (ka = 222 ∧ ja = (Int.toNat (I5 220 4))) from by omega))).trans (((uI_o (show ¬ (ka = 221 ∧ ja = (Int.toNat (I5 220 4))) from by omega))).trans ((hW8 ka ja (by omega))))))) (show 0 ≤ 1 ∧ 1 ≤ 1 from by first | omega | (simp only [wr, wl] at *; omega))⟩
          ·
            refine ⟨_, rfl, (by decide), ?_⟩
            refine ⟨rfl, ?_⟩
            exact ⟨rfl, (by decide), fun hv hA' => hQ _ _ (Rg.u (Rg.u (Rg.u (Rg.u hR6 (Pr_p (k := 221) rfl _ _)) (Pr_p (k := 222) rfl _ _)) (Pr_f rfl)) (Pr_f rfl)) hA' (hv _ rfl) (fun ka ja hk => ((uI_o (show ¬ (ka = 220 ∧ ja = 3) from by omega))).trans (((uI_o (show ¬ (ka = 220 ∧ ja = 4) from by omega))).trans (((uI_o (show ¬ (ka = 222 ∧ ja = (Int.toNat (I5 220 4))) from by omega))).trans (((uI_o (show ¬ (ka = 221 ∧ ja = (Int.toNat (I5 220 4))) from by omega))).trans ((hW8 ka ja (by omega))))))) (show 0 ≤ 1 ∧ 1 ≤ 1 from by first | omega | (simp only [wr, wl] at *; omega))⟩
  ·
    exact ⟨rfl, (by decide), fun hv hA' => hQ _ _ hR hA' (hv _ rfl) (fun _ _ _ => rfl) (show 0 ≤ 0 ∧ 0 ≤ 1 from by first | omega | (simp only [wr, wl] at *; omega))⟩
theorem c_fault_l (hF : FS F) (hR : Rg I) {v0 : Int} (hx : F 218 0 = some 5) (hQ : ∀ (r : Int) (I' : pI), Rg I' → (∀ k j, ¬ ((k = 218 ∧ 2 ≤ j) ∨ (220 ≤ k ∧ k ≤ 222)) → I' k j = I k j) → Q (some (vi r)) F I') : ∀ (mz : Nat) (la i : Int) (J : pI), Rg J → (∀ k j, ¬ ((k = 218 ∧ 2 ≤ j) ∨ (220 ≤ k ∧ k ≤ 222)) → J k j = I k j) → ((0 : Int) ≤ i) → ((i : Int) ≤ 32) → (32 - i).toNat < mz → GoN G (d + 7) kX9_faultOf NP NP 38 [some (vr 218), some (vr 5), some (vi v0), some (vr 220), some (vi la), some (vi i)] [] F J Q := by
  intro mz
  induction mz with
  | zero => intro la i J hJ hV _ _ h; exact absurd h (Nat.not_lt_zero _)
  | succ mz ih =>
    intro la i J hJ hV c100 c101 hm
    refine GoN_in (fun hok hA => ?_)
    have iiv0 : -2147483648 ≤ v0 ∧ v0 < 2147483648 := hok 2 _ rfl
    have iila : -2147483648 ≤ la ∧ la < 2147483648 := hok 4 _ rfl
    have iii : -2147483648 ≤ i ∧ i < 2147483648 := hok 5 _ rfl
    refine Go_wp (by decide) ckX9_faultOf [38] ?_
    refine ⟨fun (c1 : ((32 : Int) ≤ i)) => ?_, fun (c1 : (¬ ((32 : Int) ≤ i))) => ?_⟩
    ·
      refine ⟨_, rfl, (by decide), ?_⟩
      exact ⟨rfl, hQ _ _ hJ (fun ka ja hk => (hV ka ja (by omega)))⟩
    ·
      refine ⟨fun (c2 : ((i : Int) ≤ 0)) => ?_, fun (c2 : (¬ ((i : Int) ≤ 0))) => ?_⟩
      ·
        refine ⟨⟨_, rfl, (by decide)⟩, ?_⟩
        refine c_readPart (v0 := la) hF hJ hx (fun vr3 I4 hR5 hA6 hr8 hW7 q9 => ?_)
        have hr8 : -2147483648 ≤ vr3 ∧ vr3 < 2147483648 := hr8
        have q9 : 0 ≤ vr3 ∧ vr3 ≤ 1 := q9
        refine ⟨fun (c10 : (¬ (vr3 : Int) = 0)) => ?_, fun (c10 : ((vr3 : Int) = 0)) => ?_⟩
        ·
          refine ⟨_, rfl, (by decide), ?_⟩
          refine ⟨_, rfl, (by decide), ?_⟩
          have u11 : (J 218 1) = (I 218 1) := hV _ _ (by first | omega | decide)
          have a12 : -2147483648 ≤ (J 218 1) ∧ (J 218 1) < 2147483648 := hA.1 _ _
          have u13 : (I4 218 1) = (J 218 1) := hW7 _ _ (by first | omega | decide)
          have a14 : -2147483648 ≤ (I4 218 1) ∧ (I4 218 1) < 2147483648 := hA6.1 _ _
          have a15 : -2147483648 ≤ (I4 218 2) ∧ (I4 218 2) < 2147483648 := hA6.1 _ _
          refine ⟨fun (c16 : (((I4 218 2) : Int) < (I4 218 1))) => ?_, fun (c16 : (¬ (((I4 218 2) : Int) < (I4 218 1)))) => ?_⟩
          ·
            refine ⟨fun (c17 : ((la : Int) = 0)) => ?_, fun (c17 : (¬ ((la : Int) = 0))) => ?_⟩
            ·
              refine ⟨⟨_, rfl, (by decide)⟩, ?_⟩
              refine c_mark8  hF hR5 hx (fun vr18 hr19 q20 => ?_)
              have hr19 : -2147483648 ≤ vr18 ∧ vr18 < 2147483648 := hr19
              have q20 : 0 ≤ vr18 ∧ vr18 ≤ 1 := q20
              refine ⟨fun (c21 : (¬ (vr18 : Int) = 0)) => ?_, fun (c21 : ((vr18 : Int) = 0)) => ?_⟩
              ·
                refine ⟨⟨_, rfl, (by decide)⟩, ?_⟩
                refine c_next  hF hR5 hx (fun I22 hR23 hA24 hW25 => ?_)
                have n26 : (wr (i + 1)) = i + 1 := wr_id (show -2147483648 ≤ (i + 1 : Int) ∧ (i + 1 : Int) < 2147483648 from by omega)
                exact ih la (wr (i + 1)) I22 hR23 (fun ka ja hk => ((hW25 ka ja (by omega))).trans (((hW7 ka ja (by omega))).trans ((hV ka ja (by omega))))) (show (0 : Int) ≤ (wr (i + 1)) from by first | omega | (simp only [wr, wl] at *; omega)) (show ((wr (i + 1)) : Int) ≤ 32 from by first | omega | (simp only [wr, wl] at *; omega)) (show (32 - (wr (i + 1))).toNat < mz from by omega)
              ·
                refine ⟨_, rfl, (by decide), ?_⟩
                exact ⟨rfl, hQ _ _ hR5 (fun ka ja hk => ((hW7 ka ja (by omega))).trans ((hV ka ja (by omega))))⟩
            ·
              refine ⟨⟨_, rfl, (by decide)⟩, ?_⟩
              refine c_mark7  hF hR5 hx (fun vr27 hr28 q29 => ?_)
              have hr28 : -2147483648 ≤ vr27 ∧ vr27 < 2147483648 := hr28
              have q29 : 0 ≤ vr27 ∧ vr27 ≤ 1 := q29
              refine ⟨fun (c30 : (¬ (vr27 : Int) = 0)) => ?_, fun (c30 : ((vr27 : Int) = 0)) => ?_⟩
              ·
                refine ⟨⟨_, rfl, (by decide)⟩, ?_⟩
                refine c_next  hF hR5 hx (fun I31 hR32 hA33 hW34 => ?_)
                have n35 : (wr (i + 1)) = i + 1 := wr_id (show -2147483648 ≤ (i + 1 : Int) ∧ (i + 1 : Int) < 2147483648 from by omega)
                exact ih la (wr (i + 1)) I31 hR32 (fun ka ja hk => ((hW34 ka ja (by omega))).trans (((hW7 ka ja (by omega))).trans ((hV ka ja (by omega))))) (show (0 : Int) ≤ (wr (i + 1)) from by first | omega | (simp only [wr, wl] at *; omega)) (show ((wr (i + 1)) : Int) ≤ 32 from by first | omega | (simp only [wr, wl] at *; omega)) (show (32 - (wr (i + 1))).toNat < mz from by omega)
              ·
                refine ⟨_, rfl, (by decide), ?_⟩
                exact ⟨rfl, hQ _ _ hR5 (fun ka ja hk => ((hW7 ka ja (by omega))).trans ((hV ka ja (by omega))))⟩
          ·
            exact ⟨rfl, hQ _ _ hR5 (fun ka ja hk => ((hW7 ka ja (by omega))).trans ((hV ka ja (by omega))))⟩
        ·
          refine ⟨_, rfl, (by decide), ?_⟩
          exact ⟨rfl, hQ _ _ hR5 (fun ka ja hk => ((hW7 ka ja (by omega))).trans ((hV ka ja (by omega))))⟩
      ·
        refine ⟨fun (c36 : (¬ (la : Int) = 0)) => ?_, fun (c36 : ((la : Int) = 0)) => ?_⟩
        ·
          refine ⟨⟨_, rfl, (by decide)⟩, ?_⟩
          refine c_readPart (v0 := la) hF hJ hx (fun vr37 I38 hR39 hA40 hr42 hW41 q43 => ?_)
          have hr42 : -2147483648 ≤ vr37 ∧ vr37 < 2147483648 := hr42
          have q43 : 0 ≤ vr37 ∧ vr37 ≤ 1 := q43
          refine ⟨fun (c44 : (¬ (vr37 : Int) = 0)) => ?_, fun (c44 : ((vr37 : Int) = 0)) => ?_⟩
          ·
            refine ⟨_, rfl, (by decide), ?_⟩
            refine ⟨_, rfl, (by decide), ?_⟩
            have u45 : (J 218 1) = (I 218 1) := hV _ _ (by first | omega | decide)
            have a46 : -2147483648 ≤ (J 218 1) ∧ (J 218 1) < 2147483648 := hA.1 _ _
            have u47 : (I38 218 1) = (J 218 1) := hW41 _ _ (by first | omega | decide)
            have a48 : -2147483648 ≤ (I38 218 1) ∧ (I38 218 1) < 2147483648 := hA40.1 _ _
            have a49 : -2147483648 ≤ (I38 218 2) ∧ (I38 218 2) < 2147483648 := hA40.1 _ _
            refine ⟨fun (c50 : (((I38 218 2) : Int) < (I38 218 1))) => ?_, fun (c50 : (¬ (((I38 218 2) : Int) < (I38 218 1)))) => ?_⟩
            ·
              refine ⟨fun c => absurd c (show (¬ ((la : Int) = 0)) from by first | omega | (simp only [wr, wl] at *; omega)), fun _ => ?_⟩
              refine ⟨⟨_, rfl, (by decide)⟩, ?_⟩
              refine c_mark7  hF hR39 hx (fun vr51 hr52 q53 => ?_)
              have hr52 : -2147483648 ≤ vr51 ∧ vr51 < 2147483648 := hr52
              have q53 : 0 ≤ vr51 ∧ vr51 ≤ 1 := q53
              refine ⟨fun (c54 : (¬ (vr51 : Int) = 0)) => ?_, fun (c54 : ((vr51 : Int) = 0)) => ?_⟩
              ·
                refine ⟨⟨_, rfl, (by decide)⟩, ?_⟩
                refine c_next  hF hR39 hx (fun I55 hR56 hA57 hW58 => ?_)
                have n59 : (wr (i + 1)) = i + 1 := wr_id (show -2147483648 ≤ (i + 1 : Int) ∧ (i + 1 : Int) < 2147483648 from by omega)
                exact ih la (wr (i + 1)) I55 hR56 (fun ka ja hk => ((hW58 ka ja (by omega))).trans (((hW41 ka ja (by omega))).trans ((hV ka ja (by omega))))) (show (0 : Int) ≤ (wr (i + 1)) from by first | omega | (simp only [wr, wl] at *; omega)) (show ((wr (i + 1)) : Int) ≤ 32 from by first | omega | (simp only [wr, wl] at *; omega)) (show (32 - (wr (i + 1))).toNat < mz from by omega)
              ·
                refine ⟨_, rfl, (by decide), ?_⟩
                exact ⟨rfl, hQ _ _ hR39 (fun ka ja hk => ((hW41 ka ja (by omega))).trans ((hV ka ja (by omega))))⟩
            ·
              exact ⟨rfl, hQ _ _ hR39 (fun ka ja hk => ((hW41 ka ja (by omega))).trans ((hV ka ja (by omega))))⟩
          ·
            refine ⟨_, rfl, (by decide), ?_⟩
            exact ⟨rfl, hQ _ _ hR39 (fun ka ja hk => ((hW41 ka ja (by omega))).trans ((hV ka ja (by omega))))⟩
        ·
          refine ⟨⟨_, rfl, (by decide)⟩, ?_⟩
          refine c_mark0  hF hJ hx (fun vr60 hr61 q62 => ?_)
          have hr61 : -2147483648 ≤ vr60 ∧ vr60 < 2147483648 := hr61
          have q62 : 0 ≤ vr60 ∧ vr60 ≤ 1 := q62
          refine ⟨fun (c63 : ((vr60 : Int) = 0)) => ?_, fun (c63 : (¬ ((vr60 : Int) = 0))) => ?_⟩
          ·
            refine ⟨⟨_, rfl, (by decide)⟩, ?_⟩
            refine c_readPart (v0 := la) hF hJ hx (fun vr64 I65 hR66 hA67 hr69 hW68 q70 => ?_)
            have hr69 : -2147483648 ≤ vr64 ∧ vr64 < 2147483648 := hr69
            have q70 : 0 ≤ vr64 ∧ vr64 ≤ 1 := q70
            refine ⟨fun (c71 : (¬ (vr64 : Int) = 0)) => ?_, fun (c71 : ((vr64 : Int) = 0)) => ?_⟩
            ·
              refine ⟨_, rfl, (by decide), ?_⟩
              refine ⟨_, rfl, (by decide), ?_⟩
              have u72 : (J 218 1) = (I 218 1) := hV _ _ (by first | omega | decide)
              have a73 : -2147483648 ≤ (J 218 1) ∧ (J 218 1) < 2147483648 := hA.1 _ _
              have u74 : (I65 218 1) = (J 218 1) := hW68 _ _ (by first | omega | decide)
              have a75 : -2147483648 ≤ (I65 218 1) ∧ (I65 218 1) < 2147483648 := hA67.1 _ _
              have a76 : -2147483648 ≤ (I65 218 2) ∧ (I65 218 2) < 2147483648 := hA67.1 _ _
              refine ⟨fun (c77 : (((I65 218 2) : Int) < (I65 218 1))) => ?_, fun (c77 : (¬ (((I65 218 2) : Int) < (I65 218 1)))) => ?_⟩
              ·
                refine ⟨fun _ => ?_, fun c => absurd (show ((la : Int) = 0) from by first | omega | (simp only [wr, wl] at *; omega)) c⟩
                refine ⟨⟨_, rfl, (by decide)⟩, ?_⟩
                refine c_mark8  hF hR66 hx (fun vr78 hr79 q80 => ?_)
                have hr79 : -2147483648 ≤ vr78 ∧ vr78 < 2147483648 := hr79
                have q80 : 0 ≤ vr78 ∧ vr78 ≤ 1 := q80
                refine ⟨fun (c81 : (¬ (vr78 : Int) = 0)) => ?_, fun (c81 : ((vr78 : Int) = 0)) => ?_⟩
                ·
                  refine ⟨⟨_, rfl, (by decide)⟩, ?_⟩
                  refine c_next  hF hR66 hx (fun I82 hR83 hA84 hW85 => ?_)
                  have n86 : (wr (i + 1)) = i + 1 := wr_id (show -2147483648 ≤ (i + 1 : Int) ∧ (i + 1 : Int) < 2147483648 from by omega)
                  exact ih la (wr (i + 1)) I82 hR83 (fun ka ja hk => ((hW85 ka ja (by omega))).trans (((hW68 ka ja (by omega))).trans ((hV ka ja (by omega))))) (show (0 : Int) ≤ (wr (i + 1)) from by first | omega | (simp only [wr, wl] at *; omega)) (show ((wr (i + 1)) : Int) ≤ 32 from by first | omega | (simp only [wr, wl] at *; omega)) (show (32 - (wr (i + 1))).toNat < mz from by omega)
                ·
                  refine ⟨_, rfl, (by decide), ?_⟩
                  exact ⟨rfl, hQ _ _ hR66 (fun ka ja hk => ((hW68 ka ja (by omega))).trans ((hV ka ja (by omega))))⟩
              ·
                exact ⟨rfl, hQ _ _ hR66 (fun ka ja hk => ((hW68 ka ja (by omega))).trans ((hV ka ja (by omega))))⟩
            ·
              refine ⟨_, rfl, (by decide), ?_⟩
              exact ⟨rfl, hQ _ _ hR66 (fun ka ja hk => ((hW68 ka ja (by omega))).trans ((hV ka ja (by omega))))⟩
          ·
            refine ⟨⟨_, rfl, (by decide)⟩, ?_⟩
            refine c_next  hF hJ hx (fun I87 hR88 hA89 hW90 => ?_)
            refine ⟨⟨_, rfl, (by decide)⟩, ?_⟩
            refine c_readPart (v0 := 1) hF hR88 hx (fun vr91 I92 hR93 hA94 hr96 hW95 q97 => ?_)
            have hr96 : -2147483648 ≤ vr91 ∧ vr91 < 2147483648 := hr96
            have q97 : 0 ≤ vr91 ∧ vr91 ≤ 1 := q97
            refine ⟨fun (c98 : (¬ (vr91 : Int) = 0)) => ?_, fun (c98 : ((vr91 : Int) = 0)) => ?_⟩
            ·
              refine ⟨_, rfl, (by decide), ?_⟩
              refine ⟨_, rfl, (by decide), ?_⟩
              have u99 : (J 218 1) = (I 218 1) := hV _ _ (by first | omega | decide)
              have a100 : -2147483648 ≤ (J 218 1) ∧ (J 218 1) < 2147483648 := hA.1 _ _
              have u101 : (I87 218 1) = (J 218 1) := hW90 _ _ (by first | omega | decide)
              have a102 : -2147483648 ≤ (I87 218 1) ∧ (I87 218 1) < 2147483648 := hA89.1 _ _
              have u103 : (I92 218 1) = (I87 218 1) := hW95 _ _ (by first | omega | decide)
              have a104 : -2147483648 ≤ (I92 218 1) ∧ (I92 218 1) < 2147483648 := hA94.1 _ _
              have a105 : -2147483648 ≤ (I92 218 2) ∧ (I92 218 2) < 2147483648 := hA94.1 _ _
              refine ⟨fun (c106 : (((I92 218 2) : Int) < (I92 218 1))) => ?_, fun (c106 : (¬ (((I92 218 2) : Int) < (I92 218 1)))) => ?_⟩
              ·
                refine ⟨fun c => absurd c (show (¬ ((1 : Int) = 0)) from by decide), fun _ => ?_⟩
                refine ⟨⟨_, rfl, (by decide)⟩, ?_⟩
                refine c_mark7  hF hR93 hx (fun vr107 hr108 q109 => ?_)
                have hr108 : -2147483648 ≤ vr107 ∧ vr107 < 2147483648 := hr108
                have q109 : 0 ≤ vr107 ∧ vr107 ≤ 1 := q109
                refine ⟨fun (c110 : (¬ (vr107 : Int) = 0)) => ?_, fun (c110 : ((vr107 : Int) = 0)) => ?_⟩
                ·
                  refine ⟨⟨_, rfl, (by decide)⟩, ?_⟩
                  refine c_next  hF hR93 hx (fun I111 hR112 hA113 hW114 => ?_)
                  have n115 : (wr (i + 1)) = i + 1 := wr_id (show -2147483648 ≤ (i + 1 : Int) ∧ (i + 1 : Int) < 2147483648 from by omega)
                  exact ih 1 (wr (i + 1)) I111 hR112 (fun ka ja hk => ((hW114 ka ja (by omega))).trans (((hW95 ka ja (by omega))).trans (((hW90 ka ja (by omega))).trans ((hV ka ja (by omega)))))) (show (0 : Int) ≤ (wr (i + 1)) from by first | omega | (simp only [wr, wl] at *; omega)) (show ((wr (i + 1)) : Int) ≤ 32 from by first | omega | (simp only [wr, wl] at *; omega)) (show (32 - (wr (i + 1))).toNat < mz from by omega)
                ·
                  refine ⟨_, rfl, (by decide), ?_⟩
                  exact ⟨rfl, hQ _ _ hR93 (fun ka ja hk => ((hW95 ka ja (by omega))).trans (((hW90 ka ja (by omega))).trans ((hV ka ja (by omega)))))⟩
              ·
                exact ⟨rfl, hQ _ _ hR93 (fun ka ja hk => ((hW95 ka ja (by omega))).trans (((hW90 ka ja (by omega))).trans ((hV ka ja (by omega)))))⟩
            ·
              refine ⟨_, rfl, (by decide), ?_⟩
              exact ⟨rfl, hQ _ _ hR93 (fun ka ja hk => ((hW95 ka ja (by omega))).trans (((hW90 ka ja (by omega))).trans ((hV ka ja (by omega)))))⟩
theorem c_fault (hF : FS F) (hR : Rg I) {v0 : Int}  (hQ : ∀ (r : Int) (I' : pI), Rg I' → AR I' → iR r → (∀ k j, ¬ (k = 218 ∨ (220 ≤ k ∧ k ≤ 222)) → I' k j = I k j) → Q (some (vi r)) (uF F 218 0 (some 5)) I') : CallN G (d + 7) kX9_faultOf [vr 218, vr 5, vi v0, vr 220] NP F I Q := by
  refine CallN_in (fun hok hA => CallN_out ?_)
  have iv0 : -2147483648 ≤ v0 ∧ v0 < 2147483648 := hok (vi v0) (by simp)
  refine Call_wp (lv := [some (vr 218), some (vr 5), some (vi v0), some (vr 220), none, none]) (by decide) ckX9_faultOf [38] rfl rfl ?_
  refine ⟨_, rfl, (by decide), ?_⟩
  refine ⟨_, _, (by decide), rfl, (by decide), ?_⟩
  refine j_min (fun w1 h2 h3 h4 => ?_)
  refine j_max (fun w5 h6 h7 h8 => ?_)
  refine ⟨_, rfl, (by decide), ?_⟩
  refine ⟨_, rfl, (by decide), ?_⟩
  refine ⟨⟨_, rfl, (by decide)⟩, ?_⟩
  refine Call_wp (lv := [some (vr 220)]) (by decide) ckX5_clear [] rfl rfl ?_
  refine ⟨_, rfl, (by decide), ?_⟩
  refine ⟨_, rfl, (by decide), ?_⟩
  refine ⟨rfl, ?_⟩
  refine ⟨⟨_, rfl, (by decide)⟩, ?_⟩
  refine c_next  (FS.u hF rfl) (Rg.u (Rg.u (Rg.u (Rg.u hR (Pr_f rfl)) (Pr_f rfl)) (Pr_f rfl)) (Pr_f rfl)) rfl (fun I9 hR10 hA11 hW12 => ?_)
  refine c_fault_l (FS.u hF rfl) hR10 rfl (fun r I' g1 g2 hv hA' => hQ _ _ g1 hA' (hv _ rfl) (fun ka ja hk => (g2 ka ja (by omega)).trans (((hW12 ka ja (by omega))).trans (((uI_o (show ¬ (ka = 220 ∧ ja = 4) from by omega))).trans (((uI_o (show ¬ (ka = 220 ∧ ja = 3) from by omega))).trans (((uI_o (show ¬ (ka = 218 ∧ ja = 3) from by omega))).trans ((uI_o (show ¬ (ka = 218 ∧ ja = 1) from by omega))))))))) _ 0 0 I9 hR10 (fun _ _ _ => rfl) (show (0 : Int) ≤ (0 : Int) from by first | omega | (simp only [wr, wl] at *; omega)) (show ((0 : Int) : Int) ≤ 32 from by first | omega | (simp only [wr, wl] at *; omega)) (Nat.lt_succ_self _)
end CT
