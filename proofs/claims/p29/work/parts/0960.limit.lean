/-! limit: what it answers and writes. Own work (scripts laid by wip/pm/gen34.py). -/
section LM
variable {G : pG} {d : Nat} {F : pF} {I : pI} {Q : Option pV → pF → pI → Prop}
abbrev VL (v0 v1 : Int) : Prop := ((v0 = 0 ∨ v0 = 2) ∧ 0 ≤ v1 ∧ v1 ≤ 99999) ∨ (v0 = 1 ∧ 0 ≤ v1 ∧ v1 ≤ 999) ∨ (v0 = 3 ∧ 0 ≤ v1 ∧ v1 ≤ 24) ∨ (v0 = 4 ∧ 0 ≤ v1 ∧ v1 ≤ 5)
theorem c_limit2 (hF : FS F) (hR : Rg I) {v0 v1 : Int}  (hQ : ∀ (r : Int) (I' : pI), Rg I' → AR I' → iR r → (∀ k j, ¬ (k = 203 ∨ k = 4) → I' k j = I k j) → ((VL v0 v1 → ∀ j : Nat, (j : Int) = v0 → r = I 4 j) ∧ (¬ VL v0 v1 → r = -1000001) ∧ ∀ j : Nat, j < 5 → I' 4 j = if VL v0 v1 ∧ (j : Int) = v0 then v1 else I 4 j) → Q (some (vi r)) F I') : CallN G (d + 2) kX11_limit [vr 0, vi v0, vi v1] NP F I Q := by
  refine CallN_in (fun hok hA => CallN_out ?_)
  have iv0 : -2147483648 ≤ v0 ∧ v0 < 2147483648 := hok (vi v0) (by simp)
  have iv1 : -2147483648 ≤ v1 ∧ v1 < 2147483648 := hok (vi v1) (by simp)
  refine Call_wp (lv := [some (vr 0), some (vi v0), some (vi v1), none]) (by decide) ckX11_limit [] rfl rfl ?_
  refine Call_wp (lv := [some (vi v0), some (vi v1)]) (by decide) ckX8_isLimit [] rfl rfl ?_
  refine ⟨fun (c1 : ((v0 : Int) = 0)) => ?_, fun (c1 : (¬ ((v0 : Int) = 0))) => ?_⟩
  ·
    refine s_X11_within (fun (w2 : ((0 : Int) ≤ v1 ∧ (v1 : Int) ≤ 99999)) => ?_) (fun (w2 : ¬ ((0 : Int) ≤ v1 ∧ (v1 : Int) ≤ 99999)) => ?_)
    ·
      refine ⟨rfl, (by decide), ?_⟩
      refine ⟨fun _ => ?_, fun c => absurd c (show (¬ (1 : Int) = 0) from by decide)⟩
      refine ⟨_, rfl, (by decide), ?_⟩
      refine fun w0 hw0 => ?_; obtain rfl : w0 = some 1 := hw0.symm.trans (FS.g hF rfl)
      refine ⟨⟨_, rfl, (by decide)⟩, ?_⟩
      refine Call_wp (lv := [some (vr 1), some (vi v0)]) (by decide) ckX8_limitAt [] rfl rfl ?_
      refine ⟨fun c => absurd c (show (¬ ((v0 : Int) < 0)) from by first | omega | (simp only [wr, wl] at *; omega)), fun _ => ?_⟩
      refine ⟨fun c => absurd c (show (¬ ((5 : Int) ≤ v0)) from by first | omega | (simp only [wr, wl] at *; omega)), fun _ => ?_⟩
      refine ⟨_, rfl, (by decide), ?_⟩
      refine fun w0 hw0 => ?_; obtain rfl : w0 = some 4 := hw0.symm.trans (FS.g hF rfl)
      refine ⟨_, rfl, (by decide), (show (0 : Int) ≤ v0 from by first | with_reducible assumption | omega | (simp only [wr, wl] at *; omega)), (show v0 < (5 : Int) from by first | with_reducible assumption | omega | (simp only [wr, wl] at *; omega)), ?_⟩
      refine ⟨rfl, ?_⟩
      refine ⟨_, rfl, (by decide), ?_⟩
      refine fun w0 hw0 => ?_; obtain rfl : w0 = some 1 := hw0.symm.trans (FS.g hF rfl)
      refine ⟨⟨_, rfl, (by decide)⟩, ?_⟩
      refine Call_wp (lv := [some (vr 1), some (vi v0), some (vi v1)]) (by decide) ckX8_setLimit [] rfl rfl ?_
      refine ⟨fun c => absurd c (show (¬ ((v0 : Int) < 0)) from by first | omega | (simp only [wr, wl] at *; omega)), fun _ => ?_⟩
      refine ⟨fun c => absurd c (show (¬ ((5 : Int) ≤ v0)) from by first | omega | (simp only [wr, wl] at *; omega)), fun _ => ?_⟩
      refine ⟨_, rfl, (by decide), ?_⟩
      refine fun w0 hw0 => ?_; obtain rfl : w0 = some 4 := hw0.symm.trans (FS.g hF rfl)
      refine ⟨_, rfl, (by decide), (show (0 : Int) ≤ v0 from by first | with_reducible assumption | omega | (simp only [wr, wl] at *; omega)), (show v0 < (5 : Int) from by first | with_reducible assumption | omega | (simp only [wr, wl] at *; omega)), ?_⟩
      refine ⟨rfl, ?_⟩
      exact ⟨rfl, fun hv hA' => hQ _ _ (Rg.u hR (Pr_p (k := 4) rfl _ _)) hA' (hv _ rfl) (fun ka ja hk => (uI_o (show ¬ (ka = 4 ∧ ja = (Int.toNat v0)) from by first | (intro e; obtain ⟨rfl, _⟩ := e; exact hk (by decide)) | omega))) (⟨fun _ j hj => congrArg (I 4) (show (Int.toNat v0) = j from by omega), fun h => absurd (show VL v0 v1 from by unfold VL; first | exact Or.inl ⟨by omega, by omega, by omega⟩ | exact Or.inr (Or.inl ⟨by omega, by omega, by omega⟩) | exact Or.inr (Or.inr (Or.inl ⟨by omega, by omega, by omega⟩)) | exact Or.inr (Or.inr (Or.inr ⟨by omega, by omega, by omega⟩)) | omega) h, fun j hj => (by
                                by_cases e : (j : Int) = v0
                                · rw [if_pos ⟨show VL v0 v1 from (by unfold VL; first | exact Or.inl ⟨by omega, by omega, by omega⟩ | exact Or.inr (Or.inl ⟨by omega, by omega, by omega⟩) | exact Or.inr (Or.inr (Or.inl ⟨by omega, by omega, by omega⟩)) | exact Or.inr (Or.inr (Or.inr ⟨by omega, by omega, by omega⟩)) | omega), e⟩, show j = (Int.toNat v0) from by omega]; exact uJ_eq
                                · rw [if_neg (fun h => e h.2)]; exact uJ_ne (show ¬ j = (Int.toNat v0) from by omega))⟩)⟩
    ·
      refine ⟨rfl, (by decide), ?_⟩
      refine ⟨fun c => absurd (show ((0 : Int) = 0) from by decide) c, fun _ => ?_⟩
      refine ⟨⟨_, rfl, (by decide)⟩, ?_⟩
      refine s_X11_refuse hF (e := 1) (by decide) ?_
      exact ⟨rfl, fun hv hA' => hQ _ _ (Rg.u hR (Pr_f rfl)) hA' (hv _ rfl) (fun ka ja hk => (uI_o (show ¬ (ka = 203 ∧ ja = 1) from by first | (intro e; obtain ⟨rfl, rfl⟩ := e; exact hk (by decide)) | omega))) (⟨fun h => absurd h (by unfold VL; omega), fun _ => rfl, fun j hj => (uI_o (fun e => absurd e.1 (by decide))).trans (if_neg (fun e => absurd e.1 (by unfold VL; omega))).symm⟩)⟩
  ·
    refine ⟨fun (c3 : ((v0 : Int) = 1)) => ?_, fun (c3 : (¬ ((v0 : Int) = 1))) => ?_⟩
    ·
      refine s_X11_within (fun (w4 : ((0 : Int) ≤ v1 ∧ (v1 : Int) ≤ 999)) => ?_) (fun (w4 : ¬ ((0 : Int) ≤ v1 ∧ (v1 : Int) ≤ 999)) => ?_)
      ·
        refine ⟨rfl, (by decide), ?_⟩
        refine ⟨fun _ => ?_, fun c => absurd c (show (¬ (1 : Int) = 0) from by decide)⟩
        refine ⟨_, rfl, (by decide), ?_⟩
        refine fun w0 hw0 => ?_; obtain rfl : w0 = some 1 := hw0.symm.trans (FS.g hF rfl)
        refine ⟨⟨_, rfl, (by decide)⟩, ?_⟩
        refine Call_wp (lv := [some (vr 1), some (vi v0)]) (by decide) ckX8_limitAt [] rfl rfl ?_
        refine ⟨fun c => absurd c (show (¬ ((v0 : Int) < 0)) from by first | omega | (simp only [wr, wl] at *; omega)), fun _ => ?_⟩
        refine ⟨fun c => absurd c (show (¬ ((5 : Int) ≤ v0)) from by first | omega | (simp only [wr, wl] at *; omega)), fun _ => ?_⟩
        refine ⟨_, rfl, (by decide), ?_⟩
        refine fun w0 hw0 => ?_; obtain rfl : w0 = some 4 := hw0.symm.trans (FS.g hF rfl)
        refine ⟨_, rfl, (by decide), (show (0 : Int) ≤ v0 from by first | with_reducible assumption | omega | (simp only [wr, wl] at *; omega)), (show v0 < (5 : Int) from by first | with_reducible assumption | omega | (simp only [wr, wl] at *; omega)), ?_⟩
        refine ⟨rfl, ?_⟩
        refine ⟨_, rfl, (by decide), ?_⟩
        refine fun w0 hw0 => ?_; obtain rfl : w0 = some 1 := hw0.symm.trans (FS.g hF rfl)
        refine ⟨⟨_, rfl, (by decide)⟩, ?_⟩
        refine Call_wp (lv := [some (vr 1), some (vi v0), some (vi v1)]) (by decide) ckX8_setLimit [] rfl rfl ?_
        refine ⟨fun c => absurd c (show (¬ ((v0 : Int) < 0)) from by first | omega | (simp only [wr, wl] at *; omega)), fun _ => ?_⟩
        refine ⟨fun c => absurd c (show (¬ ((5 : Int) ≤ v0)) from by first | omega | (simp only [wr, wl] at *; omega)), fun _ => ?_⟩
        refine ⟨_, rfl, (by decide), ?_⟩
        refine fun w0 hw0 => ?_; obtain rfl : w0 = some 4 := hw0.symm.trans (FS.g hF rfl)
        refine ⟨_, rfl, (by decide), (show (0 : Int) ≤ v0 from by first | with_reducible assumption | omega | (simp only [wr, wl] at *; omega)), (show v0 < (5 : Int) from by first | with_reducible assumption | omega | (simp only [wr, wl] at *; omega)), ?_⟩
        refine ⟨rfl, ?_⟩
        exact ⟨rfl, fun hv hA' => hQ _ _ (Rg.u hR (Pr_p (k := 4) rfl _ _)) hA' (hv _ rfl) (fun ka ja hk => (uI_o (show ¬ (ka = 4 ∧ ja = (Int.toNat v0)) from by first | (intro e; obtain ⟨rfl, _⟩ := e; exact hk (by decide)) | omega))) (⟨fun _ j hj => congrArg (I 4) (show (Int.toNat v0) = j from by omega), fun h => absurd (show VL v0 v1 from by unfold VL; first | exact Or.inl ⟨by omega, by omega, by omega⟩ | exact Or.inr (Or.inl ⟨by omega, by omega, by omega⟩) | exact Or.inr (Or.inr (Or.inl ⟨by omega, by omega, by omega⟩)) | exact Or.inr (Or.inr (Or.inr ⟨by omega, by omega, by omega⟩)) | omega) h, fun j hj => (by
                                by_cases e : (j : Int) = v0
                                · rw [if_pos ⟨show VL v0 v1 from (by unfold VL; first | exact Or.inl ⟨by omega, by omega, by omega⟩ | exact Or.inr (Or.inl ⟨by omega, by omega, by omega⟩) | exact Or.inr (Or.inr (Or.inl ⟨by omega, by omega, by omega⟩)) | exact Or.inr (Or.inr (Or.inr ⟨by omega, by omega, by omega⟩)) | omega), e⟩, show j = (Int.toNat v0) from by omega]; exact uJ_eq
                                · rw [if_neg (fun h => e h.2)]; exact uJ_ne (show ¬ j = (Int.toNat v0) from by omega))⟩)⟩
      ·
        refine ⟨rfl, (by decide), ?_⟩
        refine ⟨fun c => absurd (show ((0 : Int) = 0) from by decide) c, fun _ => ?_⟩
        refine ⟨⟨_, rfl, (by decide)⟩, ?_⟩
        refine s_X11_refuse hF (e := 1) (by decide) ?_
        exact ⟨rfl, fun hv hA' => hQ _ _ (Rg.u hR (Pr_f rfl)) hA' (hv _ rfl) (fun ka ja hk => (uI_o (show ¬ (ka = 203 ∧ ja = 1) from by first | (intro e; obtain ⟨rfl, rfl⟩ := e; exact hk (by decide)) | omega))) (⟨fun h => absurd h (by unfold VL; omega), fun _ => rfl, fun j hj => (uI_o (fun e => absurd e.1 (by decide))).trans (if_neg (fun e => absurd e.1 (by unfold VL; omega))).symm⟩)⟩
    ·
      refine ⟨fun (c5 : ((v0 : Int) = 2)) => ?_, fun (c5 : (¬ ((v0 : Int) = 2))) => ?_⟩
      ·
        refine s_X11_within (fun (w6 : ((0 : Int) ≤ v1 ∧ (v1 : Int) ≤ 99999)) => ?_) (fun (w6 : ¬ ((0 : Int) ≤ v1 ∧ (v1 : Int) ≤ 99999)) => ?_)
        ·
          refine ⟨rfl, (by decide), ?_⟩
          refine ⟨fun _ => ?_, fun c => absurd c (show (¬ (1 : Int) = 0) from by decide)⟩
          refine ⟨_, rfl, (by decide), ?_⟩
          refine fun w0 hw0 => ?_; obtain rfl : w0 = some 1 := hw0.symm.trans (FS.g hF rfl)
          refine ⟨⟨_, rfl, (by decide)⟩, ?_⟩
          refine Call_wp (lv := [some (vr 1), some (vi v0)]) (by decide) ckX8_limitAt [] rfl rfl ?_
          refine ⟨fun c => absurd c (show (¬ ((v0 : Int) < 0)) from by first | omega | (simp only [wr, wl] at *; omega)), fun _ => ?_⟩
          refine ⟨fun c => absurd c (show (¬ ((5 : Int) ≤ v0)) from by first | omega | (simp only [wr, wl] at *; omega)), fun _ => ?_⟩
          refine ⟨_, rfl, (by decide), ?_⟩
          refine fun w0 hw0 => ?_; obtain rfl : w0 = some 4 := hw0.symm.trans (FS.g hF rfl)
          refine ⟨_, rfl, (by decide), (show (0 : Int) ≤ v0 from by first | with_reducible assumption | omega | (simp only [wr, wl] at *; omega)), (show v0 < (5 : Int) from by first | with_reducible assumption | omega | (simp only [wr, wl] at *; omega)), ?_⟩
          refine ⟨rfl, ?_⟩
          refine ⟨_, rfl, (by decide), ?_⟩
          refine fun w0 hw0 => ?_; obtain rfl : w0 = some 1 := hw0.symm.trans (FS.g hF rfl)
          refine ⟨⟨_, rfl, (by decide)⟩, ?_⟩
          refine Call_wp (lv := [some (vr 1), some (vi v0), some (vi v1)]) (by decide) ckX8_setLimit [] rfl rfl ?_
          refine ⟨fun c => absurd c (show (¬ ((v0 : Int) < 0)) from by first | omega | (simp only [wr, wl] at *; omega)), fun _ => ?_⟩
          refine ⟨fun c => absurd c (show (¬ ((5 : Int) ≤ v0)) from by first | omega | (simp only [wr, wl] at *; omega)), fun _ => ?_⟩
          refine ⟨_, rfl, (by decide), ?_⟩
          refine fun w0 hw0 => ?_; obtain rfl : w0 = some 4 := hw0.symm.trans (FS.g hF rfl)
          refine ⟨_, rfl, (by decide), (show (0 : Int) ≤ v0 from by first | with_reducible assumption | omega | (simp only [wr, wl] at *; omega)), (show v0 < (5 : Int) from by first | with_reducible assumption | omega | (simp only [wr, wl] at *; omega)), ?_⟩
          refine ⟨rfl, ?_⟩
          exact ⟨rfl, fun hv hA' => hQ _ _ (Rg.u hR (Pr_p (k := 4) rfl _ _)) hA' (hv _ rfl) (fun ka ja hk => (uI_o (show ¬ (ka = 4 ∧ ja = (Int.toNat v0)) from by first | (intro e; obtain ⟨rfl, _⟩ := e; exact hk (by decide)) | omega))) (⟨fun _ j hj => congrArg (I 4) (show (Int.toNat v0) = j from by omega), fun h => absurd (show VL v0 v1 from by unfold VL; first | exact Or.inl ⟨by omega, by omega, by omega⟩ | exact Or.inr (Or.inl ⟨by omega, by omega, by omega⟩) | exact Or.inr (Or.inr (Or.inl ⟨by omega, by omega, by omega⟩)) | exact Or.inr (Or.inr (Or.inr ⟨by omega, by omega, by omega⟩)) | omega) h, fun j hj => (by
                                by_cases e : (j : Int) = v0
                                · rw [if_pos ⟨show VL v0 v1 from (by unfold VL; first | exact Or.inl ⟨by omega, by omega, by omega⟩ | exact Or.inr (Or.inl ⟨by omega, by omega, by omega⟩) | exact Or.inr (Or.inr (Or.inl ⟨by omega, by omega, by omega⟩)) | exact Or.inr (Or.inr (Or.inr ⟨by omega, by omega, by omega⟩)) | omega), e⟩, show j = (Int.toNat v0) from by omega]; exact uJ_eq
                                · rw [if_neg (fun h => e h.2)]; exact uJ_ne (show ¬ j = (Int.toNat v0) from by omega))⟩)⟩
        ·
          refine ⟨rfl, (by decide), ?_⟩
          refine ⟨fun c => absurd (show ((0 : Int) = 0) from by decide) c, fun _ => ?_⟩
          refine ⟨⟨_, rfl, (by decide)⟩, ?_⟩
          refine s_X11_refuse hF (e := 1) (by decide) ?_
          exact ⟨rfl, fun hv hA' => hQ _ _ (Rg.u hR (Pr_f rfl)) hA' (hv _ rfl) (fun ka ja hk => (uI_o (show ¬ (ka = 203 ∧ ja = 1) from by first | (intro e; obtain ⟨rfl, rfl⟩ := e; exact hk (by decide)) | omega))) (⟨fun h => absurd h (by unfold VL; omega), fun _ => rfl, fun j hj => (uI_o (fun e => absurd e.1 (by decide))).trans (if_neg (fun e => absurd e.1 (by unfold VL; omega))).symm⟩)⟩
      ·
        refine ⟨fun (c7 : ((v0 : Int) = 3)) => ?_, fun (c7 : (¬ ((v0 : Int) = 3))) => ?_⟩
        ·
          refine s_X11_within (fun (w8 : ((0 : Int) ≤ v1 ∧ (v1 : Int) ≤ 24)) => ?_) (fun (w8 : ¬ ((0 : Int) ≤ v1 ∧ (v1 : Int) ≤ 24)) => ?_)
          ·
            refine ⟨rfl, (by decide), ?_⟩
            refine ⟨fun _ => ?_, fun c => absurd c (show (¬ (1 : Int) = 0) from by decide)⟩
            refine ⟨_, rfl, (by decide), ?_⟩
            refine fun w0 hw0 => ?_; obtain rfl : w0 = some 1 := hw0.symm.trans (FS.g hF rfl)
            refine ⟨⟨_, rfl, (by decide)⟩, ?_⟩
            refine Call_wp (lv := [some (vr 1), some (vi v0)]) (by decide) ckX8_limitAt [] rfl rfl ?_
            refine ⟨fun c => absurd c (show (¬ ((v0 : Int) < 0)) from by first | omega | (simp only [wr, wl] at *; omega)), fun _ => ?_⟩
            refine ⟨fun c => absurd c (show (¬ ((5 : Int) ≤ v0)) from by first | omega | (simp only [wr, wl] at *; omega)), fun _ => ?_⟩
            refine ⟨_, rfl, (by decide), ?_⟩
            refine fun w0 hw0 => ?_; obtain rfl : w0 = some 4 := hw0.symm.trans (FS.g hF rfl)
            refine ⟨_, rfl, (by decide), (show (0 : Int) ≤ v0 from by first | with_reducible assumption | omega | (simp only [wr, wl] at *; omega)), (show v0 < (5 : Int) from by first | with_reducible assumption | omega | (simp only [wr, wl] at *; omega)), ?_⟩
            refine ⟨rfl, ?_⟩
            refine ⟨_, rfl, (by decide), ?_⟩
            refine fun w0 hw0 => ?_; obtain rfl : w0 = some 1 := hw0.symm.trans (FS.g hF rfl)
            refine ⟨⟨_, rfl, (by decide)⟩, ?_⟩
            refine Call_wp (lv := [some (vr 1), some (vi v0), some (vi v1)]) (by decide) ckX8_setLimit [] rfl rfl ?_
            refine ⟨fun c => absurd c (show (¬ ((v0 : Int) < 0)) from by first | omega | (simp only [wr, wl] at *; omega)), fun _ => ?_⟩
            refine ⟨fun c => absurd c (show (¬ ((5 : Int) ≤ v0)) from by first | omega | (simp only [wr, wl] at *; omega)), fun _ => ?_⟩
            refine ⟨_, rfl, (by decide), ?_⟩
            refine fun w0 hw0 => ?_; obtain rfl : w0 = some 4 := hw0.symm.trans (FS.g hF rfl)
            refine ⟨_, rfl, (by decide), (show (0 : Int) ≤ v0 from by first | with_reducible assumption | omega | (simp only [wr, wl] at *; omega)), (show v0 < (5 : Int) from by first | with_reducible assumption | omega | (simp only [wr, wl] at *; omega)), ?_⟩
            refine ⟨rfl, ?_⟩
            exact ⟨rfl, fun hv hA' => hQ _ _ (Rg.u hR (Pr_p (k := 4) rfl _ _)) hA' (hv _ rfl) (fun ka ja hk => (uI_o (show ¬ (ka = 4 ∧ ja = (Int.toNat v0)) from by first | (intro e; obtain ⟨rfl, _⟩ := e; exact hk (by decide)) | omega))) (⟨fun _ j hj => congrArg (I 4) (show (Int.toNat v0) = j from by omega), fun h => absurd (show VL v0 v1 from by unfold VL; first | exact Or.inl ⟨by omega, by omega, by omega⟩ | exact Or.inr (Or.inl ⟨by omega, by omega, by omega⟩) | exact Or.inr (Or.inr (Or.inl ⟨by omega, by omega, by omega⟩)) | exact Or.inr (Or.inr (Or.inr ⟨by omega, by omega, by omega⟩)) | omega) h, fun j hj => (by
                                by_cases e : (j : Int) = v0
                                · rw [if_pos ⟨show VL v0 v1 from (by unfold VL; first | exact Or.inl ⟨by omega, by omega, by omega⟩ | exact Or.inr (Or.inl ⟨by omega, by omega, by omega⟩) | exact Or.inr (Or.inr (Or.inl ⟨by omega, by omega, by omega⟩)) | exact Or.inr (Or.inr (Or.inr ⟨by omega, by omega, by omega⟩)) | omega), e⟩, show j = (Int.toNat v0) from by omega]; exact uJ_eq
                                · rw [if_neg (fun h => e h.2)]; exact uJ_ne (show ¬ j = (Int.toNat v0) from by omega))⟩)⟩
          ·
            refine ⟨rfl, (by decide), ?_⟩
            refine ⟨fun c => absurd (show ((0 : Int) = 0) from by decide) c, fun _ => ?_⟩
            refine ⟨⟨_, rfl, (by decide)⟩, ?_⟩
            refine s_X11_refuse hF (e := 1) (by decide) ?_
            exact ⟨rfl, fun hv hA' => hQ _ _ (Rg.u hR (Pr_f rfl)) hA' (hv _ rfl) (fun ka ja hk => (uI_o (show ¬ (ka = 203 ∧ ja = 1) from by first | (intro e; obtain ⟨rfl, rfl⟩ := e; exact hk (by decide)) | omega))) (⟨fun h => absurd h (by unfold VL; omega), fun _ => rfl, fun j hj => (uI_o (fun e => absurd e.1 (by decide))).trans (if_neg (fun e => absurd e.1 (by unfold VL; omega))).symm⟩)⟩
        ·
          refine ⟨fun (c9 : ((v0 : Int) = 4)) => ?_, fun (c9 : (¬ ((v0 : Int) = 4))) => ?_⟩
          ·
            refine s_X11_within (fun (w10 : ((0 : Int) ≤ v1 ∧ (v1 : Int) ≤ 5)) => ?_) (fun (w10 : ¬ ((0 : Int) ≤ v1 ∧ (v1 : Int) ≤ 5)) => ?_)
            ·
              refine ⟨rfl, (by decide), ?_⟩
              refine ⟨fun _ => ?_, fun c => absurd c (show (¬ (1 : Int) = 0) from by decide)⟩
              refine ⟨_, rfl, (by decide), ?_⟩
              refine fun w0 hw0 => ?_; obtain rfl : w0 = some 1 := hw0.symm.trans (FS.g hF rfl)
              refine ⟨⟨_, rfl, (by decide)⟩, ?_⟩
              refine Call_wp (lv := [some (vr 1), some (vi v0)]) (by decide) ckX8_limitAt [] rfl rfl ?_
              refine ⟨fun c => absurd c (show (¬ ((v0 : Int) < 0)) from by first | omega | (simp only [wr, wl] at *; omega)), fun _ => ?_⟩
              refine ⟨fun c => absurd c (show (¬ ((5 : Int) ≤ v0)) from by first | omega | (simp only [wr, wl] at *; omega)), fun _ => ?_⟩
              refine ⟨_, rfl, (by decide), ?_⟩
              refine fun w0 hw0 => ?_; obtain rfl : w0 = some 4 := hw0.symm.trans (FS.g hF rfl)
              refine ⟨_, rfl, (by decide), (show (0 : Int) ≤ v0 from by first | with_reducible assumption | omega | (simp only [wr, wl] at *; omega)), (show v0 < (5 : Int) from by first | with_reducible assumption | omega | (simp only [wr, wl] at *; omega)), ?_⟩
              refine ⟨rfl, ?_⟩
              refine ⟨_, rfl, (by decide), ?_⟩
              refine fun w0 hw0 => ?_; obtain rfl : w0 = some 1 := hw0.symm.trans (FS.g hF rfl)
              refine ⟨⟨_, rfl, (by decide)⟩, ?_⟩
              refine Call_wp (lv := [some (vr 1), some (vi v0), some (vi v1)]) (by decide) ckX8_setLimit [] rfl rfl ?_
              refine ⟨fun c => absurd c (show (¬ ((v0 : Int) < 0)) from by first | omega | (simp only [wr, wl] at *; omega)), fun _ => ?_⟩
              refine ⟨fun c => absurd c (show (¬ ((5 : Int) ≤ v0)) from by first | omega | (simp only [wr, wl] at *; omega)), fun _ => ?_⟩
              refine ⟨_, rfl, (by decide), ?_⟩
              refine fun w0 hw0 => ?_; obtain rfl : w0 = some 4 := hw0.symm.trans (FS.g hF rfl)
              refine ⟨_, rfl, (by decide), (show (0 : Int) ≤ v0 from by first | with_reducible assumption | omega | (simp only [wr, wl] at *; omega)), (show v0 < (5 : Int) from by first | with_reducible assumption | omega | (simp only [wr, wl] at *; omega)), ?_⟩
              refine ⟨rfl, ?_⟩
              exact ⟨rfl, fun hv hA' => hQ _ _ (Rg.u hR (Pr_p (k := 4) rfl _ _)) hA' (hv _ rfl) (fun ka ja hk => (uI_o (show ¬ (ka = 4 ∧ ja = (Int.toNat v0)) from by first | (intro e; obtain ⟨rfl, _⟩ := e; exact hk (by decide)) | omega))) (⟨fun _ j hj => congrArg (I 4) (show (Int.toNat v0) = j from by omega), fun h => absurd (show VL v0 v1 from by unfold VL; first | exact Or.inl ⟨by omega, by omega, by omega⟩ | exact Or.inr (Or.inl ⟨by omega, by omega, by omega⟩) | exact Or.inr (Or.inr (Or.inl ⟨by omega, by omega, by omega⟩)) | exact Or.inr (Or.inr (Or.inr ⟨by omega, by omega, by omega⟩)) | omega) h, fun j hj => (by
                                by_cases e : (j : Int) = v0
                                · rw [if_pos ⟨show VL v0 v1 from (by unfold VL; first | exact Or.inl ⟨by omega, by omega, by omega⟩ | exact Or.inr (Or.inl ⟨by omega, by omega, by omega⟩) | exact Or.inr (Or.inr (Or.inl ⟨by omega, by omega, by omega⟩)) | exact Or.inr (Or.inr (Or.inr ⟨by omega, by omega, by omega⟩)) | omega), e⟩, show j = (Int.toNat v0) from by omega]; exact uJ_eq
                                · rw [if_neg (fun h => e h.2)]; exact uJ_ne (show ¬ j = (Int.toNat v0) from by omega))⟩)⟩
            ·
              refine ⟨rfl, (by decide), ?_⟩
              refine ⟨fun c => absurd (show ((0 : Int) = 0) from by decide) c, fun _ => ?_⟩
              refine ⟨⟨_, rfl, (by decide)⟩, ?_⟩
              refine s_X11_refuse hF (e := 1) (by decide) ?_
              exact ⟨rfl, fun hv hA' => hQ _ _ (Rg.u hR (Pr_f rfl)) hA' (hv _ rfl) (fun ka ja hk => (uI_o (show ¬ (ka = 203 ∧ ja = 1) from by first | (intro e; obtain ⟨rfl, rfl⟩ := e; exact hk (by decide)) | omega))) (⟨fun h => absurd h (by unfold VL; omega), fun _ => rfl, fun j hj => (uI_o (fun e => absurd e.1 (by decide))).trans (if_neg (fun e => absurd e.1 (by unfold VL; omega))).symm⟩)⟩
          ·
            refine ⟨rfl, (by decide), ?_⟩
            refine ⟨fun c => absurd (show ((0 : Int) = 0) from by decide) c, fun _ => ?_⟩
            refine ⟨⟨_, rfl, (by decide)⟩, ?_⟩
            refine s_X11_refuse hF (e := 1) (by decide) ?_
            exact ⟨rfl, fun hv hA' => hQ _ _ (Rg.u hR (Pr_f rfl)) hA' (hv _ rfl) (fun ka ja hk => (uI_o (show ¬ (ka = 203 ∧ ja = 1) from by first | (intro e; obtain ⟨rfl, rfl⟩ := e; exact hk (by decide)) | omega))) (⟨fun h => absurd h (by unfold VL; omega), fun _ => rfl, fun j hj => (uI_o (fun e => absurd e.1 (by decide))).trans (if_neg (fun e => absurd e.1 (by unfold VL; omega))).symm⟩)⟩
theorem r_limit2 (hF : FS F) (hR : Rg I) {v0 v1 : Int}  (hQ : ∀ (r : Int) (I' : pI), Rg I' → AR I' → iR r → (∀ k j, ¬ (k = 238 ∨ (k = 236 ∧ 4 ≤ j ∧ j < 9)) → I' k j = I k j) → ((VL v0 v1 → ∀ j : Nat, (j : Int) = v0 → r = I 236 (4 + 1 * j)) ∧ (¬ VL v0 v1 → r = -1000001) ∧ ∀ j : Nat, j < 5 → I' 236 (4 + 1 * j) = if VL v0 v1 ∧ (j : Int) = v0 then v1 else I 236 (4 + 1 * j)) → Q (some (vi r)) F I') : CallN G (d + 1) kX12_limit [vr 235, vi v0, vi v1] NP F I Q := by
  refine CallN_in (fun hok hA => CallN_out ?_)
  have iv0 : -2147483648 ≤ v0 ∧ v0 < 2147483648 := hok (vi v0) (by simp)
  have iv1 : -2147483648 ≤ v1 ∧ v1 < 2147483648 := hok (vi v1) (by simp)
  refine Call_wp (lv := [some (vr 235), some (vi v0), some (vi v1)]) (by decide) ckX12_limit [] rfl rfl ?_
  refine s_X12_within (fun (w1 : ((0 : Int) ≤ v0 ∧ (v0 : Int) ≤ 4)) => ?_) (fun (w1 : ¬ ((0 : Int) ≤ v0 ∧ (v0 : Int) ≤ 4)) => ?_)
  ·
    refine ⟨fun c => absurd c (show (¬ ((1 : Int) = 0)) from by decide), fun _ => ?_⟩
    refine ⟨_, rfl, (by decide), ?_⟩
    refine fun w0 hw0 => ?_; obtain rfl : w0 = some 239 := hw0.symm.trans (FS.g hF rfl)
    refine ⟨_, rfl, (by decide), (show (0 : Int) ≤ v0 from by first | with_reducible assumption | omega | (simp only [wr, wl] at *; omega)), (show v0 < (5 : Int) from by first | with_reducible assumption | omega | (simp only [wr, wl] at *; omega)), ?_⟩
    have r2 : Pm (Int.toNat v0) (I 239 (Int.toNat v0)) := hR.m (Int.toNat v0) (by omega)
    unfold Pm at r2
    have a3 : -2147483648 ≤ (I 239 (Int.toNat v0)) ∧ (I 239 (Int.toNat v0)) < 2147483648 := hA.1 _ _
    refine s_X12_within (fun (w4 : ((0 : Int) ≤ v1 ∧ (v1 : Int) ≤ (I 239 (Int.toNat v0)))) => ?_) (fun (w4 : ¬ ((0 : Int) ≤ v1 ∧ (v1 : Int) ≤ (I 239 (Int.toNat v0)))) => ?_)
    ·
      refine ⟨fun c => absurd c (show (¬ ((1 : Int) = 0)) from by decide), fun _ => ?_⟩
      refine ⟨⟨_, rfl, (by decide)⟩, ?_⟩
      refine Call_wp (lv := [some (vr 235), some (vi (wr (4 + v0))), some (vi v1), none]) (by decide) ckX12_become [] rfl rfl ?_
      refine ⟨_, rfl, (by decide), ?_⟩
      refine fun w0 hw0 => ?_; obtain rfl : w0 = some 236 := hw0.symm.trans (FS.g hF rfl)
      have n5 : (wr (4 + v0)) = 4 + v0 := wr_id (show -2147483648 ≤ (4 + v0 : Int) ∧ (4 + v0 : Int) < 2147483648 from by omega)
      refine ⟨_, rfl, (by decide), (show (0 : Int) ≤ (wr (4 + v0)) from by first | with_reducible assumption | omega | (simp only [wr, wl] at *; omega)), (show (wr (4 + v0)) < (1340 : Int) from by first | with_reducible assumption | omega | (simp only [wr, wl] at *; omega)), ?_⟩
      refine ⟨_, rfl, (by decide), ?_⟩
      refine fun w0 hw0 => ?_; obtain rfl : w0 = some 236 := hw0.symm.trans (FS.g hF rfl)
      refine ⟨_, rfl, (by decide), (show (0 : Int) ≤ (wr (4 + v0)) from by first | with_reducible assumption | omega | (simp only [wr, wl] at *; omega)), (show (wr (4 + v0)) < (1340 : Int) from by first | with_reducible assumption | omega | (simp only [wr, wl] at *; omega)), ?_⟩
      have p6 : Pn (Int.toNat (wr (4 + v0))) v1 := by apply Pn_w <;> omega
      refine ⟨rfl, ?_⟩
      exact ⟨rfl, fun hv hA' => hQ _ _ (Rg.u hR (Pr_n p6)) hA' (hv _ rfl) (fun ka ja hk => (uI_o (show ¬ (ka = 236 ∧ ja = (Int.toNat (wr (4 + v0)))) from by omega))) (⟨fun _ j hj => congrArg (I 236) (show (Int.toNat (wr (4 + v0))) = (4 + 1 * j) from by omega), fun h => absurd (show VL v0 v1 from by unfold VL; first | exact Or.inl ⟨by omega, by omega, by omega⟩ | exact Or.inr (Or.inl ⟨by omega, by omega, by omega⟩) | exact Or.inr (Or.inr (Or.inl ⟨by omega, by omega, by omega⟩)) | exact Or.inr (Or.inr (Or.inr ⟨by omega, by omega, by omega⟩)) | omega) h, fun j hj => (by
                                by_cases e : (j : Int) = v0
                                · rw [if_pos ⟨show VL v0 v1 from (by unfold VL; first | exact Or.inl ⟨by omega, by omega, by omega⟩ | exact Or.inr (Or.inl ⟨by omega, by omega, by omega⟩) | exact Or.inr (Or.inr (Or.inl ⟨by omega, by omega, by omega⟩)) | exact Or.inr (Or.inr (Or.inr ⟨by omega, by omega, by omega⟩)) | omega), e⟩, show (4 + 1 * j) = (Int.toNat (wr (4 + v0))) from by omega]; exact uJ_eq
                                · rw [if_neg (fun h => e h.2)]; exact uJ_ne (show ¬ (4 + 1 * j) = (Int.toNat (wr (4 + v0))) from by omega))⟩)⟩
    ·
      refine ⟨fun _ => ?_, fun c => absurd (show ((0 : Int) = 0) from by decide) c⟩
      refine ⟨⟨_, rfl, (by decide)⟩, ?_⟩
      refine s_X12_finding hF (v := (-1000001)) (by decide) ?_
      exact ⟨rfl, fun hv hA' => hQ _ _ (Rg.u hR (Pr_f rfl)) hA' (hv _ rfl) (fun ka ja hk => (uI_o (show ¬ (ka = 238 ∧ ja = 1) from by first | (intro e; obtain ⟨rfl, rfl⟩ := e; exact hk (by decide)) | omega))) (⟨fun h => absurd h (by unfold VL; omega), fun _ => rfl, fun j hj => (uI_o (fun e => absurd e.1 (by decide))).trans (if_neg (fun e => absurd e.1 (by unfold VL; omega))).symm⟩)⟩
  ·
    refine ⟨fun _ => ?_, fun c => absurd (show ((0 : Int) = 0) from by decide) c⟩
    refine ⟨⟨_, rfl, (by decide)⟩, ?_⟩
    refine s_X12_finding hF (v := (-1000001)) (by decide) ?_
    exact ⟨rfl, fun hv hA' => hQ _ _ (Rg.u hR (Pr_f rfl)) hA' (hv _ rfl) (fun ka ja hk => (uI_o (show ¬ (ka = 238 ∧ ja = 1) from by first | (intro e; obtain ⟨rfl, rfl⟩ := e; exact hk (by decide)) | omega))) (⟨fun h => absurd h (by unfold VL; omega), fun _ => rfl, fun j hj => (uI_o (fun e => absurd e.1 (by decide))).trans (if_neg (fun e => absurd e.1 (by unfold VL; omega))).symm⟩)⟩
end LM
