/-! entryIs, back, book. Own work (scripts laid by wip/pm/gen34.py). -/
section BO11
variable {G : pG} {d : Nat} {F : pF} {I : pI} {Q : Option pV → pF → pI → Prop}
theorem c_back11 (hF : FS F) (hR : Rg I) {v0 v1 : Int} (he : 0 ≤ I 12 6 ∧ I 12 6 ≤ 20) (hQ : ∀ (r : Int) (I' : pI), Rg I' → AR I' → iR r → (∀ k j, ¬ (k = 203 ∨ k = 18) → I' k j = I k j) → (((¬ ((0 ≤ v0 ∧ v0 < I 12 6) ∧ 0 ≤ v1 ∧ v1 < I 12 6) → r = -1000001) ∧ (((0 ≤ v0 ∧ v0 < I 12 6) ∧ 0 ≤ v1 ∧ v1 < I 12 6) → (¬ (v0 < v1 ∧ I 13 (Int.toNat v0) = I 13 (Int.toNat v1) ∧ I 14 (Int.toNat v0) = I 14 (Int.toNat v1) ∧ I 18 (Int.toNat v0) < 0) → r = -1000003) ∧ ((v0 < v1 ∧ I 13 (Int.toNat v0) = I 13 (Int.toNat v1) ∧ I 14 (Int.toNat v0) = I 14 (Int.toNat v1) ∧ I 18 (Int.toNat v0) < 0) → r = 1))) ∧ (r < 0 → ∀ j : Nat, I' 18 j = I 18 j) ∧ (0 ≤ r → ∀ j : Nat, ((j : Int) = v0 → I' 18 j = v1) ∧ (¬ (j : Int) = v0 → I' 18 j = I 18 j))) → Q (some (vi r)) F I') : CallN G (d + 2) kX11_back [vr 0, vi v0, vi v1] NP F I Q := by
  refine CallN_in (fun hok hA => CallN_out ?_)
  have iv0 : -2147483648 ≤ v0 ∧ v0 < 2147483648 := hok (vi v0) (by simp)
  have iv1 : -2147483648 ≤ v1 ∧ v1 < 2147483648 := hok (vi v1) (by simp)
  refine Call_wp (lv := [some (vr 0), some (vi v0), some (vi v1)]) (by decide) ckX11_back [] rfl rfl ?_
  refine ⟨_, rfl, (by decide), ?_⟩
  refine fun w0 hw0 => ?_; obtain rfl : w0 = some 1 := hw0.symm.trans (FS.g hF rfl)
  refine ⟨_, rfl, (by decide), ?_⟩
  refine fun w0 hw0 => ?_; obtain rfl : w0 = some 12 := hw0.symm.trans (FS.g hF rfl)
  refine ⟨⟨_, rfl, (by decide)⟩, ?_⟩
  refine Call_wp (lv := [some (vr 12), some (vi v0)]) (by decide) ckX0_has [] rfl rfl ?_
  refine ⟨fun (c1 : ((v0 : Int) < 0)) => ?_, fun (c1 : (¬ ((v0 : Int) < 0))) => ?_⟩
  ·
    refine ⟨rfl, (by decide), ?_⟩
    refine ⟨fun _ => ?_, fun c => absurd (show ((0 : Int) = 0) from by decide) c⟩
    refine ⟨⟨_, rfl, (by decide)⟩, ?_⟩
    refine s_X11_refuse hF (e := 1) (by decide) ?_
    exact ⟨rfl, fun hv hA' => hQ _ _ (Rg.u hR (Pr_f rfl)) hA' (hv _ rfl) (fun ka ja hk => (uI_o (show ¬ (ka = 203 ∧ ja = 1) from by first | (intro e; obtain ⟨rfl, rfl⟩ := e; exact hk (by decide)) | omega))) (show ((¬ ((0 ≤ v0 ∧ v0 < I 12 6) ∧ 0 ≤ v1 ∧ v1 < I 12 6) → (-1000001) = -1000001) ∧ (((0 ≤ v0 ∧ v0 < I 12 6) ∧ 0 ≤ v1 ∧ v1 < I 12 6) → (¬ (v0 < v1 ∧ I 13 (Int.toNat v0) = I 13 (Int.toNat v1) ∧ I 14 (Int.toNat v0) = I 14 (Int.toNat v1) ∧ I 18 (Int.toNat v0) < 0) → (-1000001) = -1000003) ∧ ((v0 < v1 ∧ I 13 (Int.toNat v0) = I 13 (Int.toNat v1) ∧ I 14 (Int.toNat v0) = I 14 (Int.toNat v1) ∧ I 18 (Int.toNat v0) < 0) → (-1000001) = 1))) ∧ ((-1000001) < 0 → ∀ j : Nat, (uI I 203 1 (wr ((I 203 1) + 1))) 18 j = I 18 j) ∧ (0 ≤ (-1000001) → ∀ j : Nat, ((j : Int) = v0 → (uI I 203 1 (wr ((I 203 1) + 1))) 18 j = v1) ∧ (¬ (j : Int) = v0 → (uI I 203 1 (wr ((I 203 1) + 1))) 18 j = I 18 j)) from by
                              refine ⟨⟨fun z => ?_, fun z => ⟨fun b => ?_, fun b => ?_⟩⟩, ?_, ?_⟩
                              any_goals first | rfl | omega | (exfalso; omega)
                              all_goals exact fun _ j => uI_o (show ¬ (18 = 203 ∧ j = 1) from fun e => absurd e.1 (Nat.ne_of_beq_eq_false rfl)))⟩
  ·
    refine ⟨_, rfl, (by decide), ?_⟩
    have a2 : -2147483648 ≤ (I 12 6) ∧ (I 12 6) < 2147483648 := hA.1 _ _
    refine ⟨fun (c3 : (((I 12 6) : Int) ≤ v0)) => ?_, fun (c3 : (¬ (((I 12 6) : Int) ≤ v0))) => ?_⟩
    ·
      refine ⟨rfl, (by decide), ?_⟩
      refine ⟨fun _ => ?_, fun c => absurd (show ((0 : Int) = 0) from by decide) c⟩
      refine ⟨⟨_, rfl, (by decide)⟩, ?_⟩
      refine s_X11_refuse hF (e := 1) (by decide) ?_
      exact ⟨rfl, fun hv hA' => hQ _ _ (Rg.u hR (Pr_f rfl)) hA' (hv _ rfl) (fun ka ja hk => (uI_o (show ¬ (ka = 203 ∧ ja = 1) from by first | (intro e; obtain ⟨rfl, rfl⟩ := e; exact hk (by decide)) | omega))) (show ((¬ ((0 ≤ v0 ∧ v0 < I 12 6) ∧ 0 ≤ v1 ∧ v1 < I 12 6) → (-1000001) = -1000001) ∧ (((0 ≤ v0 ∧ v0 < I 12 6) ∧ 0 ≤ v1 ∧ v1 < I 12 6) → (¬ (v0 < v1 ∧ I 13 (Int.toNat v0) = I 13 (Int.toNat v1) ∧ I 14 (Int.toNat v0) = I 14 (Int.toNat v1) ∧ I 18 (Int.toNat v0) < 0) → (-1000001) = -1000003) ∧ ((v0 < v1 ∧ I 13 (Int.toNat v0) = I 13 (Int.toNat v1) ∧ I 14 (Int.toNat v0) = I 14 (Int.toNat v1) ∧ I 18 (Int.toNat v0) < 0) → (-1000001) = 1))) ∧ ((-1000001) < 0 → ∀ j : Nat, (uI I 203 1 (wr ((I 203 1) + 1))) 18 j = I 18 j) ∧ (0 ≤ (-1000001) → ∀ j : Nat, ((j : Int) = v0 → (uI I 203 1 (wr ((I 203 1) + 1))) 18 j = v1) ∧ (¬ (j : Int) = v0 → (uI I 203 1 (wr ((I 203 1) + 1))) 18 j = I 18 j)) from by
                              refine ⟨⟨fun z => ?_, fun z => ⟨fun b => ?_, fun b => ?_⟩⟩, ?_, ?_⟩
                              any_goals first | rfl | omega | (exfalso; omega)
                              all_goals exact fun _ j => uI_o (show ¬ (18 = 203 ∧ j = 1) from fun e => absurd e.1 (Nat.ne_of_beq_eq_false rfl)))⟩
    ·
      refine ⟨fun (c4 : ((20 : Int) ≤ v0)) => ?_, fun (c4 : (¬ ((20 : Int) ≤ v0))) => ?_⟩
      ·
        refine ⟨rfl, (by decide), ?_⟩
        refine ⟨fun _ => ?_, fun c => absurd (show ((0 : Int) = 0) from by decide) c⟩
        refine ⟨⟨_, rfl, (by decide)⟩, ?_⟩
        refine s_X11_refuse hF (e := 1) (by decide) ?_
        exact ⟨rfl, fun hv hA' => hQ _ _ (Rg.u hR (Pr_f rfl)) hA' (hv _ rfl) (fun ka ja hk => (uI_o (show ¬ (ka = 203 ∧ ja = 1) from by first | (intro e; obtain ⟨rfl, rfl⟩ := e; exact hk (by decide)) | omega))) (show ((¬ ((0 ≤ v0 ∧ v0 < I 12 6) ∧ 0 ≤ v1 ∧ v1 < I 12 6) → (-1000001) = -1000001) ∧ (((0 ≤ v0 ∧ v0 < I 12 6) ∧ 0 ≤ v1 ∧ v1 < I 12 6) → (¬ (v0 < v1 ∧ I 13 (Int.toNat v0) = I 13 (Int.toNat v1) ∧ I 14 (Int.toNat v0) = I 14 (Int.toNat v1) ∧ I 18 (Int.toNat v0) < 0) → (-1000001) = -1000003) ∧ ((v0 < v1 ∧ I 13 (Int.toNat v0) = I 13 (Int.toNat v1) ∧ I 14 (Int.toNat v0) = I 14 (Int.toNat v1) ∧ I 18 (Int.toNat v0) < 0) → (-1000001) = 1))) ∧ ((-1000001) < 0 → ∀ j : Nat, (uI I 203 1 (wr ((I 203 1) + 1))) 18 j = I 18 j) ∧ (0 ≤ (-1000001) → ∀ j : Nat, ((j : Int) = v0 → (uI I 203 1 (wr ((I 203 1) + 1))) 18 j = v1) ∧ (¬ (j : Int) = v0 → (uI I 203 1 (wr ((I 203 1) + 1))) 18 j = I 18 j)) from by
                              refine ⟨⟨fun z => ?_, fun z => ⟨fun b => ?_, fun b => ?_⟩⟩, ?_, ?_⟩
                              any_goals first | rfl | omega | (exfalso; omega)
                              all_goals exact fun _ j => uI_o (show ¬ (18 = 203 ∧ j = 1) from fun e => absurd e.1 (Nat.ne_of_beq_eq_false rfl)))⟩
      ·
        refine ⟨rfl, (by decide), ?_⟩
        refine ⟨fun c => absurd c (show (¬ ((1 : Int) = 0)) from by decide), fun _ => ?_⟩
        refine ⟨_, rfl, (by decide), ?_⟩
        refine fun w0 hw0 => ?_; obtain rfl : w0 = some 1 := hw0.symm.trans (FS.g hF rfl)
        refine ⟨_, rfl, (by decide), ?_⟩
        refine fun w0 hw0 => ?_; obtain rfl : w0 = some 12 := hw0.symm.trans (FS.g hF rfl)
        refine ⟨⟨_, rfl, (by decide)⟩, ?_⟩
        refine Call_wp (lv := [some (vr 12), some (vi v1)]) (by decide) ckX0_has [] rfl rfl ?_
        refine ⟨fun (c5 : ((v1 : Int) < 0)) => ?_, fun (c5 : (¬ ((v1 : Int) < 0))) => ?_⟩
        ·
          refine ⟨rfl, (by decide), ?_⟩
          refine ⟨fun c => absurd (show ((0 : Int) = 0) from by decide) c, fun _ => ?_⟩
          refine ⟨⟨_, rfl, (by decide)⟩, ?_⟩
          refine s_X11_refuse hF (e := 1) (by decide) ?_
          exact ⟨rfl, fun hv hA' => hQ _ _ (Rg.u hR (Pr_f rfl)) hA' (hv _ rfl) (fun ka ja hk => (uI_o (show ¬ (ka = 203 ∧ ja = 1) from by first | (intro e; obtain ⟨rfl, rfl⟩ := e; exact hk (by decide)) | omega))) (show ((¬ ((0 ≤ v0 ∧ v0 < I 12 6) ∧ 0 ≤ v1 ∧ v1 < I 12 6) → (-1000001) = -1000001) ∧ (((0 ≤ v0 ∧ v0 < I 12 6) ∧ 0 ≤ v1 ∧ v1 < I 12 6) → (¬ (v0 < v1 ∧ I 13 (Int.toNat v0) = I 13 (Int.toNat v1) ∧ I 14 (Int.toNat v0) = I 14 (Int.toNat v1) ∧ I 18 (Int.toNat v0) < 0) → (-1000001) = -1000003) ∧ ((v0 < v1 ∧ I 13 (Int.toNat v0) = I 13 (Int.toNat v1) ∧ I 14 (Int.toNat v0) = I 14 (Int.toNat v1) ∧ I 18 (Int.toNat v0) < 0) → (-1000001) = 1))) ∧ ((-1000001) < 0 → ∀ j : Nat, (uI I 203 1 (wr ((I 203 1) + 1))) 18 j = I 18 j) ∧ (0 ≤ (-1000001) → ∀ j : Nat, ((j : Int) = v0 → (uI I 203 1 (wr ((I 203 1) + 1))) 18 j = v1) ∧ (¬ (j : Int) = v0 → (uI I 203 1 (wr ((I 203 1) + 1))) 18 j = I 18 j)) from by
                              refine ⟨⟨fun z => ?_, fun z => ⟨fun b => ?_, fun b => ?_⟩⟩, ?_, ?_⟩
                              any_goals first | rfl | omega | (exfalso; omega)
                              all_goals exact fun _ j => uI_o (show ¬ (18 = 203 ∧ j = 1) from fun e => absurd e.1 (Nat.ne_of_beq_eq_false rfl)))⟩
        ·
          refine ⟨_, rfl, (by decide), ?_⟩
          refine ⟨fun (c6 : (((I 12 6) : Int) ≤ v1)) => ?_, fun (c6 : (¬ (((I 12 6) : Int) ≤ v1))) => ?_⟩
          ·
            refine ⟨rfl, (by decide), ?_⟩
            refine ⟨fun c => absurd (show ((0 : Int) = 0) from by decide) c, fun _ => ?_⟩
            refine ⟨⟨_, rfl, (by decide)⟩, ?_⟩
            refine s_X11_refuse hF (e := 1) (by decide) ?_
            exact ⟨rfl, fun hv hA' => hQ _ _ (Rg.u hR (Pr_f rfl)) hA' (hv _ rfl) (fun ka ja hk => (uI_o (show ¬ (ka = 203 ∧ ja = 1) from by first | (intro e; obtain ⟨rfl, rfl⟩ := e; exact hk (by decide)) | omega))) (show ((¬ ((0 ≤ v0 ∧ v0 < I 12 6) ∧ 0 ≤ v1 ∧ v1 < I 12 6) → (-1000001) = -1000001) ∧ (((0 ≤ v0 ∧ v0 < I 12 6) ∧ 0 ≤ v1 ∧ v1 < I 12 6) → (¬ (v0 < v1 ∧ I 13 (Int.toNat v0) = I 13 (Int.toNat v1) ∧ I 14 (Int.toNat v0) = I 14 (Int.toNat v1) ∧ I 18 (Int.toNat v0) < 0) → (-1000001) = -1000003) ∧ ((v0 < v1 ∧ I 13 (Int.toNat v0) = I 13 (Int.toNat v1) ∧ I 14 (Int.toNat v0) = I 14 (Int.toNat v1) ∧ I 18 (Int.toNat v0) < 0) → (-1000001) = 1))) ∧ ((-1000001) < 0 → ∀ j : Nat, (uI I 203 1 (wr ((I 203 1) + 1))) 18 j = I 18 j) ∧ (0 ≤ (-1000001) → ∀ j : Nat, ((j : Int) = v0 → (uI I 203 1 (wr ((I 203 1) + 1))) 18 j = v1) ∧ (¬ (j : Int) = v0 → (uI I 203 1 (wr ((I 203 1) + 1))) 18 j = I 18 j)) from by
                              refine ⟨⟨fun z => ?_, fun z => ⟨fun b => ?_, fun b => ?_⟩⟩, ?_, ?_⟩
                              any_goals first | rfl | omega | (exfalso; omega)
                              all_goals exact fun _ j => uI_o (show ¬ (18 = 203 ∧ j = 1) from fun e => absurd e.1 (Nat.ne_of_beq_eq_false rfl)))⟩
          ·
            refine ⟨fun (c7 : ((20 : Int) ≤ v1)) => ?_, fun (c7 : (¬ ((20 : Int) ≤ v1))) => ?_⟩
            ·
              refine ⟨rfl, (by decide), ?_⟩
              refine ⟨fun c => absurd (show ((0 : Int) = 0) from by decide) c, fun _ => ?_⟩
              refine ⟨⟨_, rfl, (by decide)⟩, ?_⟩
              refine s_X11_refuse hF (e := 1) (by decide) ?_
              exact ⟨rfl, fun hv hA' => hQ _ _ (Rg.u hR (Pr_f rfl)) hA' (hv _ rfl) (fun ka ja hk => (uI_o (show ¬ (ka = 203 ∧ ja = 1) from by first | (intro e; obtain ⟨rfl, rfl⟩ := e; exact hk (by decide)) | omega))) (show ((¬ ((0 ≤ v0 ∧ v0 < I 12 6) ∧ 0 ≤ v1 ∧ v1 < I 12 6) → (-1000001) = -1000001) ∧ (((0 ≤ v0 ∧ v0 < I 12 6) ∧ 0 ≤ v1 ∧ v1 < I 12 6) → (¬ (v0 < v1 ∧ I 13 (Int.toNat v0) = I 13 (Int.toNat v1) ∧ I 14 (Int.toNat v0) = I 14 (Int.toNat v1) ∧ I 18 (Int.toNat v0) < 0) → (-1000001) = -1000003) ∧ ((v0 < v1 ∧ I 13 (Int.toNat v0) = I 13 (Int.toNat v1) ∧ I 14 (Int.toNat v0) = I 14 (Int.toNat v1) ∧ I 18 (Int.toNat v0) < 0) → (-1000001) = 1))) ∧ ((-1000001) < 0 → ∀ j : Nat, (uI I 203 1 (wr ((I 203 1) + 1))) 18 j = I 18 j) ∧ (0 ≤ (-1000001) → ∀ j : Nat, ((j : Int) = v0 → (uI I 203 1 (wr ((I 203 1) + 1))) 18 j = v1) ∧ (¬ (j : Int) = v0 → (uI I 203 1 (wr ((I 203 1) + 1))) 18 j = I 18 j)) from by
                              refine ⟨⟨fun z => ?_, fun z => ⟨fun b => ?_, fun b => ?_⟩⟩, ?_, ?_⟩
                              any_goals first | rfl | omega | (exfalso; omega)
                              all_goals exact fun _ j => uI_o (show ¬ (18 = 203 ∧ j = 1) from fun e => absurd e.1 (Nat.ne_of_beq_eq_false rfl)))⟩
            ·
              refine ⟨rfl, (by decide), ?_⟩
              refine ⟨fun _ => ?_, fun c => absurd c (show (¬ (1 : Int) = 0) from by decide)⟩
              refine ⟨_, rfl, (by decide), ?_⟩
              refine fun w0 hw0 => ?_; obtain rfl : w0 = some 1 := hw0.symm.trans (FS.g hF rfl)
              refine ⟨_, rfl, (by decide), ?_⟩
              refine fun w0 hw0 => ?_; obtain rfl : w0 = some 12 := hw0.symm.trans (FS.g hF rfl)
              refine ⟨⟨_, rfl, (by decide)⟩, ?_⟩
              refine Call_wp (lv := [some (vr 12), some (vi v0), some (vi v1)]) (by decide) ckX0_canTakeBack [] rfl rfl ?_
              refine ⟨⟨_, rfl, (by decide)⟩, ?_⟩
              refine Call_wp (lv := [some (vr 12), some (vi v0)]) (by decide) ckX0_has [] rfl rfl ?_
              refine ⟨fun c => absurd c (show (¬ ((v0 : Int) < 0)) from by first | omega | (simp only [wr, wl] at *; omega)), fun _ => ?_⟩
              refine ⟨_, rfl, (by decide), ?_⟩
              refine ⟨fun c => absurd c (show (¬ (((I 12 6) : Int) ≤ v0)) from by first | omega | (simp only [wr, wl] at *; omega)), fun _ => ?_⟩
              refine ⟨fun c => absurd c (show (¬ ((20 : Int) ≤ v0)) from by first | omega | (simp only [wr, wl] at *; omega)), fun _ => ?_⟩
              refine ⟨rfl, (by decide), ?_⟩
              refine ⟨fun c => absurd c (show (¬ ((1 : Int) = 0)) from by decide), fun _ => ?_⟩
              refine ⟨⟨_, rfl, (by decide)⟩, ?_⟩
              refine Call_wp (lv := [some (vr 12), some (vi v1)]) (by decide) ckX0_has [] rfl rfl ?_
              refine ⟨fun c => absurd c (show (¬ ((v1 : Int) < 0)) from by first | omega | (simp only [wr, wl] at *; omega)), fun _ => ?_⟩
              refine ⟨_, rfl, (by decide), ?_⟩
              refine ⟨fun c => absurd c (show (¬ (((I 12 6) : Int) ≤ v1)) from by first | omega | (simp only [wr, wl] at *; omega)), fun _ => ?_⟩
              refine ⟨fun c => absurd c (show (¬ ((20 : Int) ≤ v1)) from by first | omega | (simp only [wr, wl] at *; omega)), fun _ => ?_⟩
              refine ⟨rfl, (by decide), ?_⟩
              refine ⟨fun c => absurd c (show (¬ ((1 : Int) = 0)) from by decide), fun _ => ?_⟩
              refine ⟨fun (c8 : ((v1 : Int) ≤ v0)) => ?_, fun (c8 : (¬ ((v1 : Int) ≤ v0))) => ?_⟩
              ·
                refine ⟨rfl, (by decide), ?_⟩
                refine ⟨fun c => absurd (show ((0 : Int) = 0) from by decide) c, fun _ => ?_⟩
                refine ⟨⟨_, rfl, (by decide)⟩, ?_⟩
                refine s_X11_refuse hF (e := 3) (by decide) ?_
                exact ⟨rfl, fun hv hA' => hQ _ _ (Rg.u hR (Pr_f rfl)) hA' (hv _ rfl) (fun ka ja hk => (uI_o (show ¬ (ka = 203 ∧ ja = 3) from by first | (intro e; obtain ⟨rfl, rfl⟩ := e; exact hk (by decide)) | omega))) (show ((¬ ((0 ≤ v0 ∧ v0 < I 12 6) ∧ 0 ≤ v1 ∧ v1 < I 12 6) → (-1000003) = -1000001) ∧ (((0 ≤ v0 ∧ v0 < I 12 6) ∧ 0 ≤ v1 ∧ v1 < I 12 6) → (¬ (v0 < v1 ∧ I 13 (Int.toNat v0) = I 13 (Int.toNat v1) ∧ I 14 (Int.toNat v0) = I 14 (Int.toNat v1) ∧ I 18 (Int.toNat v0) < 0) → (-1000003) = -1000003) ∧ ((v0 < v1 ∧ I 13 (Int.toNat v0) = I 13 (Int.toNat v1) ∧ I 14 (Int.toNat v0) = I 14 (Int.toNat v1) ∧ I 18 (Int.toNat v0) < 0) → (-1000003) = 1))) ∧ ((-1000003) < 0 → ∀ j : Nat, (uI I 203 3 (wr ((I 203 3) + 1))) 18 j = I 18 j) ∧ (0 ≤ (-1000003) → ∀ j : Nat, ((j : Int) = v0 → (uI I 203 3 (wr ((I 203 3) + 1))) 18 j = v1) ∧ (¬ (j : Int) = v0 → (uI I 203 3 (wr ((I 203 3) + 1))) 18 j = I 18 j)) from by
                              refine ⟨⟨fun z => ?_, fun z => ⟨fun b => ?_, fun b => ?_⟩⟩, ?_, ?_⟩
                              any_goals first | rfl | omega | (exfalso; omega)
                              all_goals exact fun _ j => uI_o (show ¬ (18 = 203 ∧ j = 3) from fun e => absurd e.1 (Nat.ne_of_beq_eq_false rfl)))⟩
              ·
                refine ⟨_, rfl, (by decide), ?_⟩
                refine fun w0 hw0 => ?_; obtain rfl : w0 = some 18 := hw0.symm.trans (FS.g hF rfl)
                refine ⟨_, rfl, (by decide), (show (0 : Int) ≤ v0 from by first | with_reducible assumption | omega | (simp only [wr, wl] at *; omega)), (show v0 < (20 : Int) from by first | with_reducible assumption | omega | (simp only [wr, wl] at *; omega)), ?_⟩
                have a9 : -2147483648 ≤ (I 18 (Int.toNat v0)) ∧ (I 18 (Int.toNat v0)) < 2147483648 := hA.1 _ _
                refine ⟨fun (c10 : ((0 : Int) ≤ (I 18 (Int.toNat v0)))) => ?_, fun (c10 : (¬ ((0 : Int) ≤ (I 18 (Int.toNat v0))))) => ?_⟩
                ·
                  refine ⟨rfl, (by decide), ?_⟩
                  refine ⟨fun c => absurd (show ((0 : Int) = 0) from by decide) c, fun _ => ?_⟩
                  refine ⟨⟨_, rfl, (by decide)⟩, ?_⟩
                  refine s_X11_refuse hF (e := 3) (by decide) ?_
                  exact ⟨rfl, fun hv hA' => hQ _ _ (Rg.u hR (Pr_f rfl)) hA' (hv _ rfl) (fun ka ja hk => (uI_o (show ¬ (ka = 203 ∧ ja = 3) from by first | (intro e; obtain ⟨rfl, rfl⟩ := e; exact hk (by decide)) | omega))) (show ((¬ ((0 ≤ v0 ∧ v0 < I 12 6) ∧ 0 ≤ v1 ∧ v1 < I 12 6) → (-1000003) = -1000001) ∧ (((0 ≤ v0 ∧ v0 < I 12 6) ∧ 0 ≤ v1 ∧ v1 < I 12 6) → (¬ (v0 < v1 ∧ I 13 (Int.toNat v0) = I 13 (Int.toNat v1) ∧ I 14 (Int.toNat v0) = I 14 (Int.toNat v1) ∧ I 18 (Int.toNat v0) < 0) → (-1000003) = -1000003) ∧ ((v0 < v1 ∧ I 13 (Int.toNat v0) = I 13 (Int.toNat v1) ∧ I 14 (Int.toNat v0) = I 14 (Int.toNat v1) ∧ I 18 (Int.toNat v0) < 0) → (-1000003) = 1))) ∧ ((-1000003) < 0 → ∀ j : Nat, (uI I 203 3 (wr ((I 203 3) + 1))) 18 j = I 18 j) ∧ (0 ≤ (-1000003) → ∀ j : Nat, ((j : Int) = v0 → (uI I 203 3 (wr ((I 203 3) + 1))) 18 j = v1) ∧ (¬ (j : Int) = v0 → (uI I 203 3 (wr ((I 203 3) + 1))) 18 j = I 18 j)) from by
                              refine ⟨⟨fun z => ?_, fun z => ⟨fun b => ?_, fun b => ?_⟩⟩, ?_, ?_⟩
                              any_goals first | rfl | omega | (exfalso; omega)
                              all_goals exact fun _ j => uI_o (show ¬ (18 = 203 ∧ j = 3) from fun e => absurd e.1 (Nat.ne_of_beq_eq_false rfl)))⟩
                ·
                  refine ⟨_, rfl, (by decide), ?_⟩
                  refine fun w0 hw0 => ?_; obtain rfl : w0 = some 13 := hw0.symm.trans (FS.g hF rfl)
                  refine ⟨_, rfl, (by decide), (show (0 : Int) ≤ v0 from by first | with_reducible assumption | omega | (simp only [wr, wl] at *; omega)), (show v0 < (20 : Int) from by first | with_reducible assumption | omega | (simp only [wr, wl] at *; omega)), ?_⟩
                  refine ⟨_, rfl, (by decide), ?_⟩
                  refine fun w0 hw0 => ?_; obtain rfl : w0 = some 13 := hw0.symm.trans (FS.g hF rfl)
                  refine ⟨_, rfl, (by decide), (show (0 : Int) ≤ v1 from by first | with_reducible assumption | omega | (simp only [wr, wl] at *; omega)), (show v1 < (20 : Int) from by first | with_reducible assumption | omega | (simp only [wr, wl] at *; omega)), ?_⟩
                  have a11 : -2147483648 ≤ (I 13 (Int.toNat v0)) ∧ (I 13 (Int.toNat v0)) < 2147483648 := hA.1 _ _
                  have a12 : -2147483648 ≤ (I 13 (Int.toNat v1)) ∧ (I 13 (Int.toNat v1)) < 2147483648 := hA.1 _ _
                  refine ⟨fun (c13 : (¬ ((I 13 (Int.toNat v0)) : Int) = (I 13 (Int.toNat v1)))) => ?_, fun (c13 : (((I 13 (Int.toNat v0)) : Int) = (I 13 (Int.toNat v1)))) => ?_⟩
                  ·
                    refine ⟨rfl, (by decide), ?_⟩
                    refine ⟨fun c => absurd (show ((0 : Int) = 0) from by decide) c, fun _ => ?_⟩
                    refine ⟨⟨_, rfl, (by decide)⟩, ?_⟩
                    refine s_X11_refuse hF (e := 3) (by decide) ?_
                    exact ⟨rfl, fun hv hA' => hQ _ _ (Rg.u hR (Pr_f rfl)) hA' (hv _ rfl) (fun ka ja hk => (uI_o (show ¬ (ka = 203 ∧ ja = 3) from by first | (intro e; obtain ⟨rfl, rfl⟩ := e; exact hk (by decide)) | omega))) (show ((¬ ((0 ≤ v0 ∧ v0 < I 12 6) ∧ 0 ≤ v1 ∧ v1 < I 12 6) → (-1000003) = -1000001) ∧ (((0 ≤ v0 ∧ v0 < I 12 6) ∧ 0 ≤ v1 ∧ v1 < I 12 6) → (¬ (v0 < v1 ∧ I 13 (Int.toNat v0) = I 13 (Int.toNat v1) ∧ I 14 (Int.toNat v0) = I 14 (Int.toNat v1) ∧ I 18 (Int.toNat v0) < 0) → (-1000003) = -1000003) ∧ ((v0 < v1 ∧ I 13 (Int.toNat v0) = I 13 (Int.toNat v1) ∧ I 14 (Int.toNat v0) = I 14 (Int.toNat v1) ∧ I 18 (Int.toNat v0) < 0) → (-1000003) = 1))) ∧ ((-1000003) < 0 → ∀ j : Nat, (uI I 203 3 (wr ((I 203 3) + 1))) 18 j = I 18 j) ∧ (0 ≤ (-1000003) → ∀ j : Nat, ((j : Int) = v0 → (uI I 203 3 (wr ((I 203 3) + 1))) 18 j = v1) ∧ (¬ (j : Int) = v0 → (uI I 203 3 (wr ((I 203 3) + 1))) 18 j = I 18 j)) from by
                              refine ⟨⟨fun z => ?_, fun z => ⟨fun b => ?_, fun b => ?_⟩⟩, ?_, ?_⟩
                              any_goals first | rfl | omega | (exfalso; omega)
                              all_goals exact fun _ j => uI_o (show ¬ (18 = 203 ∧ j = 3) from fun e => absurd e.1 (Nat.ne_of_beq_eq_false rfl)))⟩
                  ·
                    refine ⟨_, rfl, (by decide), ?_⟩
                    refine fun w0 hw0 => ?_; obtain rfl : w0 = some 14 := hw0.symm.trans (FS.g hF rfl)
                    refine ⟨_, rfl, (by decide), (show (0 : Int) ≤ v0 from by first | with_reducible assumption | omega | (simp only [wr, wl] at *; omega)), (show v0 < (20 : Int) from by first | with_reducible assumption | omega | (simp only [wr, wl] at *; omega)), ?_⟩
                    refine ⟨_, rfl, (by decide), ?_⟩
                    refine fun w0 hw0 => ?_; obtain rfl : w0 = some 14 := hw0.symm.trans (FS.g hF rfl)
                    refine ⟨_, rfl, (by decide), (show (0 : Int) ≤ v1 from by first | with_reducible assumption | omega | (simp only [wr, wl] at *; omega)), (show v1 < (20 : Int) from by first | with_reducible assumption | omega | (simp only [wr, wl] at *; omega)), ?_⟩
                    have a14 : -2147483648 ≤ (I 14 (Int.toNat v0)) ∧ (I 14 (Int.toNat v0)) < 2147483648 := hA.1 _ _
                    have a15 : -2147483648 ≤ (I 14 (Int.toNat v1)) ∧ (I 14 (Int.toNat v1)) < 2147483648 := hA.1 _ _
                    refine ⟨fun (c16 : (¬ ((I 14 (Int.toNat v0)) : Int) = (I 14 (Int.toNat v1)))) => ?_, fun (c16 : (((I 14 (Int.toNat v0)) : Int) = (I 14 (Int.toNat v1)))) => ?_⟩
                    ·
                      refine ⟨rfl, (by decide), ?_⟩
                      refine ⟨fun c => absurd (show ((0 : Int) = 0) from by decide) c, fun _ => ?_⟩
                      refine ⟨⟨_, rfl, (by decide)⟩, ?_⟩
                      refine s_X11_refuse hF (e := 3) (by decide) ?_
                      exact ⟨rfl, fun hv hA' => hQ _ _ (Rg.u hR (Pr_f rfl)) hA' (hv _ rfl) (fun ka ja hk => (uI_o (show ¬ (ka = 203 ∧ ja = 3) from by first | (intro e; obtain ⟨rfl, rfl⟩ := e; exact hk (by decide)) | omega))) (show ((¬ ((0 ≤ v0 ∧ v0 < I 12 6) ∧ 0 ≤ v1 ∧ v1 < I 12 6) → (-1000003) = -1000001) ∧ (((0 ≤ v0 ∧ v0 < I 12 6) ∧ 0 ≤ v1 ∧ v1 < I 12 6) → (¬ (v0 < v1 ∧ I 13 (Int.toNat v0) = I 13 (Int.toNat v1) ∧ I 14 (Int.toNat v0) = I 14 (Int.toNat v1) ∧ I 18 (Int.toNat v0) < 0) → (-1000003) = -1000003) ∧ ((v0 < v1 ∧ I 13 (Int.toNat v0) = I 13 (Int.toNat v1) ∧ I 14 (Int.toNat v0) = I 14 (Int.toNat v1) ∧ I 18 (Int.toNat v0) < 0) → (-1000003) = 1))) ∧ ((-1000003) < 0 → ∀ j : Nat, (uI I 203 3 (wr ((I 203 3) + 1))) 18 j = I 18 j) ∧ (0 ≤ (-1000003) → ∀ j : Nat, ((j : Int) = v0 → (uI I 203 3 (wr ((I 203 3) + 1))) 18 j = v1) ∧ (¬ (j : Int) = v0 → (uI I 203 3 (wr ((I 203 3) + 1))) 18 j = I 18 j)) from by
                              refine ⟨⟨fun z => ?_, fun z => ⟨fun b => ?_, fun b => ?_⟩⟩, ?_, ?_⟩
                              any_goals first | rfl | omega | (exfalso; omega)
                              all_goals exact fun _ j => uI_o (show ¬ (18 = 203 ∧ j = 3) from fun e => absurd e.1 (Nat.ne_of_beq_eq_false rfl)))⟩
                    ·
                      refine ⟨rfl, (by decide), ?_⟩
                      refine ⟨fun _ => ?_, fun c => absurd c (show (¬ (1 : Int) = 0) from by decide)⟩
                      refine ⟨_, rfl, (by decide), ?_⟩
                      refine fun w0 hw0 => ?_; obtain rfl : w0 = some 1 := hw0.symm.trans (FS.g hF rfl)
                      refine ⟨_, rfl, (by decide), ?_⟩
                      refine fun w0 hw0 => ?_; obtain rfl : w0 = some 12 := hw0.symm.trans (FS.g hF rfl)
                      refine ⟨⟨_, rfl, (by decide)⟩, ?_⟩
                      refine Call_wp (lv := [some (vr 12), some (vi v0), some (vi v1)]) (by decide) ckX0_takeBack [] rfl rfl ?_
                      refine ⟨⟨_, rfl, (by decide)⟩, ?_⟩
                      refine Call_wp (lv := [some (vr 12), some (vi v0)]) (by decide) ckX0_has [] rfl rfl ?_
                      refine ⟨fun c => absurd c (show (¬ ((v0 : Int) < 0)) from by first | omega | (simp only [wr, wl] at *; omega)), fun _ => ?_⟩
                      refine ⟨_, rfl, (by decide), ?_⟩
                      refine ⟨fun c => absurd c (show (¬ (((I 12 6) : Int) ≤ v0)) from by first | omega | (simp only [wr, wl] at *; omega)), fun _ => ?_⟩
                      refine ⟨fun c => absurd c (show (¬ ((20 : Int) ≤ v0)) from by first | omega | (simp only [wr, wl] at *; omega)), fun _ => ?_⟩
                      refine ⟨rfl, (by decide), ?_⟩
                      refine ⟨fun c => absurd c (show (¬ ((1 : Int) = 0)) from by decide), fun _ => ?_⟩
                      refine ⟨_, rfl, (by decide), ?_⟩
                      refine fun w0 hw0 => ?_; obtain rfl : w0 = some 18 := hw0.symm.trans (FS.g hF rfl)
                      refine ⟨_, rfl, (by decide), (show (0 : Int) ≤ v0 from by first | with_reducible assumption | omega | (simp only [wr, wl] at *; omega)), (show v0 < (20 : Int) from by first | with_reducible assumption | omega | (simp only [wr, wl] at *; omega)), ?_⟩
                      refine ⟨rfl, ?_⟩
                      exact ⟨rfl, fun hv hA' => hQ _ _ (Rg.u hR (Pr_p (k := 18) rfl _ _)) hA' (hv _ rfl) (fun ka ja hk => (uI_o (show ¬ (ka = 18 ∧ ja = (Int.toNat v0)) from by first | (intro e; obtain ⟨rfl, _⟩ := e; exact hk (by decide)) | omega))) (show ((¬ ((0 ≤ v0 ∧ v0 < I 12 6) ∧ 0 ≤ v1 ∧ v1 < I 12 6) → 1 = -1000001) ∧ (((0 ≤ v0 ∧ v0 < I 12 6) ∧ 0 ≤ v1 ∧ v1 < I 12 6) → (¬ (v0 < v1 ∧ I 13 (Int.toNat v0) = I 13 (Int.toNat v1) ∧ I 14 (Int.toNat v0) = I 14 (Int.toNat v1) ∧ I 18 (Int.toNat v0) < 0) → 1 = -1000003) ∧ ((v0 < v1 ∧ I 13 (Int.toNat v0) = I 13 (Int.toNat v1) ∧ I 14 (Int.toNat v0) = I 14 (Int.toNat v1) ∧ I 18 (Int.toNat v0) < 0) → 1 = 1))) ∧ (1 < 0 → ∀ j : Nat, (uI I 18 (Int.toNat v0) v1) 18 j = I 18 j) ∧ (0 ≤ 1 → ∀ j : Nat, ((j : Int) = v0 → (uI I 18 (Int.toNat v0) v1) 18 j = v1) ∧ (¬ (j : Int) = v0 → (uI I 18 (Int.toNat v0) v1) 18 j = I 18 j)) from by
                              refine ⟨⟨fun z => ?_, fun z => ⟨fun b => ?_, fun b => ?_⟩⟩, ?_, ?_⟩
                              any_goals first | rfl | omega | (exfalso; omega)
                              all_goals exact fun _ j => ⟨fun e => uJ_eqj (show j = (Int.toNat v0) from by omega), fun e => uJ_ne (show ¬ j = (Int.toNat v0) from by omega)⟩)⟩
theorem r_back11 (hF : FS F) (hR : Rg I) {v0 v1 : Int}  (hQ : ∀ (r : Int) (I' : pI), Rg I' → AR I' → iR r → (∀ k j, ¬ (k = 238 ∨ (k = 236 ∧ j = 189 + 6 * Int.toNat v0 ∧ j < 304)) → I' k j = I k j) → (((¬ ((0 ≤ v0 ∧ v0 < I 236 1) ∧ 0 ≤ v1 ∧ v1 < I 236 1) → r = -1000001) ∧ (((0 ≤ v0 ∧ v0 < I 236 1) ∧ 0 ≤ v1 ∧ v1 < I 236 1) → (¬ (v0 < v1 ∧ I 236 (184 + 6 * (Int.toNat v0)) = I 236 (184 + 6 * (Int.toNat v1)) ∧ I 236 (185 + 6 * (Int.toNat v0)) = I 236 (185 + 6 * (Int.toNat v1)) ∧ I 236 (189 + 6 * (Int.toNat v0)) < 0) → r = -1000003) ∧ ((v0 < v1 ∧ I 236 (184 + 6 * (Int.toNat v0)) = I 236 (184 + 6 * (Int.toNat v1)) ∧ I 236 (185 + 6 * (Int.toNat v0)) = I 236 (185 + 6 * (Int.toNat v1)) ∧ I 236 (189 + 6 * (Int.toNat v0)) < 0) → r = 1))) ∧ (r < 0 → ∀ j : Nat, j < 20 → I' 236 (189 + 6 * j) = I 236 (189 + 6 * j)) ∧ (0 ≤ r → ∀ j : Nat, j < 20 → ((j : Int) = v0 → I' 236 (189 + 6 * j) = v1) ∧ (¬ (j : Int) = v0 → I' 236 (189 + 6 * j) = I 236 (189 + 6 * j)))) → Q (some (vi r)) F I') : CallN G (d + 2) kX12_back [vr 235, vi v0, vi v1] NP F I Q := by
  refine CallN_in (fun hok hA => CallN_out ?_)
  have iv0 : -2147483648 ≤ v0 ∧ v0 < 2147483648 := hok (vi v0) (by simp)
  have iv1 : -2147483648 ≤ v1 ∧ v1 < 2147483648 := hok (vi v1) (by simp)
  refine Call_wp (lv := [some (vr 235), some (vi v0), some (vi v1), none]) (by decide) ckX12_back [] rfl rfl ?_
  refine ⟨⟨_, rfl, (by decide)⟩, ?_⟩
  have r1 : 0 ≤ (I 236 1) ∧ (I 236 1) ≤ 20 := Rg.n1 hR
  refine s_X12_is hF (w := 1) (by decide) (show 0 ≤ (I 236 1) ∧ (I 236 1) < 1000000 from by omega) (fun (w2 : (0 ≤ v0 ∧ v0 < (I 236 1))) => ?_) (fun (w2 : ¬ (0 ≤ v0 ∧ v0 < (I 236 1))) => ?_)
  ·
    refine ⟨fun c => absurd c (show (¬ ((1 : Int) = 0)) from by decide), fun _ => ?_⟩
    refine ⟨⟨_, rfl, (by decide)⟩, ?_⟩
    refine s_X12_is hF (w := 1) (by decide) (show 0 ≤ (I 236 1) ∧ (I 236 1) < 1000000 from by omega) (fun (w3 : (0 ≤ v1 ∧ v1 < (I 236 1))) => ?_) (fun (w3 : ¬ (0 ≤ v1 ∧ v1 < (I 236 1))) => ?_)
    ·
      refine ⟨fun _ => ?_, fun c => absurd c (show (¬ (1 : Int) = 0) from by decide)⟩
      refine ⟨⟨_, rfl, (by decide)⟩, ?_⟩
      refine Call_wp (lv := [some (vr 235), some (vi v0), some (vi 0)]) (by decide) ckX12_entry [] rfl rfl ?_
      refine ⟨_, rfl, (by decide), ?_⟩
      refine fun w0 hw0 => ?_; obtain rfl : w0 = some 236 := hw0.symm.trans (FS.g hF rfl)
      have n4 : (wr (6 * v0)) = 6 * v0 := wr_id (show -2147483648 ≤ (6 * v0 : Int) ∧ (6 * v0 : Int) < 2147483648 from by omega)
      have n5 : (wr (184 + (wr (6 * v0)))) = 184 + (wr (6 * v0)) := wr_id (show -2147483648 ≤ (184 + (wr (6 * v0)) : Int) ∧ (184 + (wr (6 * v0)) : Int) < 2147483648 from by omega)
      have n6 : (wr ((wr (184 + (wr (6 * v0)))) + 0)) = (wr (184 + (wr (6 * v0)))) + 0 := wr_id (show -2147483648 ≤ ((wr (184 + (wr (6 * v0)))) + 0 : Int) ∧ ((wr (184 + (wr (6 * v0)))) + 0 : Int) < 2147483648 from by omega)
      refine ⟨_, rfl, (by decide), (show (0 : Int) ≤ (wr ((wr (184 + (wr (6 * v0)))) + 0)) from by first | with_reducible assumption | omega | (simp only [wr, wl] at *; omega)), (show (wr ((wr (184 + (wr (6 * v0)))) + 0)) < (1340 : Int) from by first | with_reducible assumption | omega | (simp only [wr, wl] at *; omega)), ?_⟩
      have z7 : (I 236 (Int.toNat (wr ((wr (184 + (wr (6 * v0)))) + 0)))) = I 236 (184 + 6 * Int.toNat v0) := (rfl).trans (congrArg (I 236) (by omega))
      refine ⟨rfl, ?_⟩
      refine ⟨⟨_, rfl, (by decide)⟩, ?_⟩
      refine Call_wp (lv := [some (vr 235), some (vi v1), some (vi 0)]) (by decide) ckX12_entry [] rfl rfl ?_
      refine ⟨_, rfl, (by decide), ?_⟩
      refine fun w0 hw0 => ?_; obtain rfl : w0 = some 236 := hw0.symm.trans (FS.g hF rfl)
      have n8 : (wr (6 * v1)) = 6 * v1 := wr_id (show -2147483648 ≤ (6 * v1 : Int) ∧ (6 * v1 : Int) < 2147483648 from by omega)
      have n9 : (wr (184 + (wr (6 * v1)))) = 184 + (wr (6 * v1)) := wr_id (show -2147483648 ≤ (184 + (wr (6 * v1)) : Int) ∧ (184 + (wr (6 * v1)) : Int) < 2147483648 from by omega)
      have n10 : (wr ((wr (184 + (wr (6 * v1)))) + 0)) = (wr (184 + (wr (6 * v1)))) + 0 := wr_id (show -2147483648 ≤ ((wr (184 + (wr (6 * v1)))) + 0 : Int) ∧ ((wr (184 + (wr (6 * v1)))) + 0 : Int) < 2147483648 from by omega)
      refine ⟨_, rfl, (by decide), (show (0 : Int) ≤ (wr ((wr (184 + (wr (6 * v1)))) + 0)) from by first | with_reducible assumption | omega | (simp only [wr, wl] at *; omega)), (show (wr ((wr (184 + (wr (6 * v1)))) + 0)) < (1340 : Int) from by first | with_reducible assumption | omega | (simp only [wr, wl] at *; omega)), ?_⟩
      have z11 : (I 236 (Int.toNat (wr ((wr (184 + (wr (6 * v1)))) + 0)))) = I 236 (184 + 6 * Int.toNat v1) := (rfl).trans (congrArg (I 236) (by omega))
      refine ⟨rfl, ?_⟩
      have a12 : -2147483648 ≤ (I 236 (Int.toNat (wr ((wr (184 + (wr (6 * v0)))) + 0)))) ∧ (I 236 (Int.toNat (wr ((wr (184 + (wr (6 * v0)))) + 0)))) < 2147483648 := hA.1 _ _
      have a13 : -2147483648 ≤ (I 236 (Int.toNat (wr ((wr (184 + (wr (6 * v1)))) + 0)))) ∧ (I 236 (Int.toNat (wr ((wr (184 + (wr (6 * v1)))) + 0)))) < 2147483648 := hA.1 _ _
      refine ⟨fun (c14 : (¬ ((I 236 (Int.toNat (wr ((wr (184 + (wr (6 * v0)))) + 0)))) : Int) = (I 236 (Int.toNat (wr ((wr (184 + (wr (6 * v1)))) + 0)))))) => ?_, fun (c14 : (((I 236 (Int.toNat (wr ((wr (184 + (wr (6 * v0)))) + 0)))) : Int) = (I 236 (Int.toNat (wr ((wr (184 + (wr (6 * v1)))) + 0)))))) => ?_⟩
      ·
        refine ⟨fun (c15 : ((v1 : Int) ≤ v0)) => ?_, fun (c15 : (¬ ((v1 : Int) ≤ v0))) => ?_⟩
        ·
          refine ⟨⟨_, rfl, (by decide)⟩, ?_⟩
          refine s_X12_finding hF (v := (-1000003)) (by decide) ?_
          exact ⟨rfl, fun hv hA' => hQ _ _ (Rg.u hR (Pr_f rfl)) hA' (hv _ rfl) (fun ka ja hk => (uI_o (show ¬ (ka = 238 ∧ ja = 3) from by first | (intro e; obtain ⟨rfl, rfl⟩ := e; exact hk (by decide)) | omega))) (show ((¬ ((0 ≤ v0 ∧ v0 < I 236 1) ∧ 0 ≤ v1 ∧ v1 < I 236 1) → (-1000003) = -1000001) ∧ (((0 ≤ v0 ∧ v0 < I 236 1) ∧ 0 ≤ v1 ∧ v1 < I 236 1) → (¬ (v0 < v1 ∧ I 236 (184 + 6 * (Int.toNat v0)) = I 236 (184 + 6 * (Int.toNat v1)) ∧ I 236 (185 + 6 * (Int.toNat v0)) = I 236 (185 + 6 * (Int.toNat v1)) ∧ I 236 (189 + 6 * (Int.toNat v0)) < 0) → (-1000003) = -1000003) ∧ ((v0 < v1 ∧ I 236 (184 + 6 * (Int.toNat v0)) = I 236 (184 + 6 * (Int.toNat v1)) ∧ I 236 (185 + 6 * (Int.toNat v0)) = I 236 (185 + 6 * (Int.toNat v1)) ∧ I 236 (189 + 6 * (Int.toNat v0)) < 0) → (-1000003) = 1))) ∧ ((-1000003) < 0 → ∀ j : Nat, j < 20 → (uI I 238 3 (wr ((I 238 3) + 1))) 236 (189 + 6 * j) = I 236 (189 + 6 * j)) ∧ (0 ≤ (-1000003) → ∀ j : Nat, j < 20 → ((j : Int) = v0 → (uI I 238 3 (wr ((I 238 3) + 1))) 236 (189 + 6 * j) = v1) ∧ (¬ (j : Int) = v0 → (uI I 238 3 (wr ((I 238 3) + 1))) 236 (189 + 6 * j) = I 236 (189 + 6 * j))) from by
                              refine ⟨⟨fun z => ?_, fun z => ⟨fun b => ?_, fun b => ?_⟩⟩, ?_, ?_⟩
                              any_goals first | rfl | omega | (exfalso; omega)
                              all_goals exact fun _ j hj => uI_o (show ¬ (236 = 238 ∧ (189 + 6 * j) = 3) from fun e => absurd e.1 (Nat.ne_of_beq_eq_false rfl)))⟩
        ·
          refine ⟨fun _ => ?_, fun c => absurd (show ((0 : Int) = 0) from by decide) c⟩
          refine ⟨⟨_, rfl, (by decide)⟩, ?_⟩
          refine s_X12_finding hF (v := (-1000003)) (by decide) ?_
          exact ⟨rfl, fun hv hA' => hQ _ _ (Rg.u hR (Pr_f rfl)) hA' (hv _ rfl) (fun ka ja hk => (uI_o (show ¬ (ka = 238 ∧ ja = 3) from by first | (intro e; obtain ⟨rfl, rfl⟩ := e; exact hk (by decide)) | omega))) (show ((¬ ((0 ≤ v0 ∧ v0 < I 236 1) ∧ 0 ≤ v1 ∧ v1 < I 236 1) → (-1000003) = -1000001) ∧ (((0 ≤ v0 ∧ v0 < I 236 1) ∧ 0 ≤ v1 ∧ v1 < I 236 1) → (¬ (v0 < v1 ∧ I 236 (184 + 6 * (Int.toNat v0)) = I 236 (184 + 6 * (Int.toNat v1)) ∧ I 236 (185 + 6 * (Int.toNat v0)) = I 236 (185 + 6 * (Int.toNat v1)) ∧ I 236 (189 + 6 * (Int.toNat v0)) < 0) → (-1000003) = -1000003) ∧ ((v0 < v1 ∧ I 236 (184 + 6 * (Int.toNat v0)) = I 236 (184 + 6 * (Int.toNat v1)) ∧ I 236 (185 + 6 * (Int.toNat v0)) = I 236 (185 + 6 * (Int.toNat v1)) ∧ I 236 (189 + 6 * (Int.toNat v0)) < 0) → (-1000003) = 1))) ∧ ((-1000003) < 0 → ∀ j : Nat, j < 20 → (uI I 238 3 (wr ((I 238 3) + 1))) 236 (189 + 6 * j) = I 236 (189 + 6 * j)) ∧ (0 ≤ (-1000003) → ∀ j : Nat, j < 20 → ((j : Int) = v0 → (uI I 238 3 (wr ((I 238 3) + 1))) 236 (189 + 6 * j) = v1) ∧ (¬ (j : Int) = v0 → (uI I 238 3 (wr ((I 238 3) + 1))) 236 (189 + 6 * j) = I 236 (189 + 6 * j))) from by
                              refine ⟨⟨fun z => ?_, fun z => ⟨fun b => ?_, fun b => ?_⟩⟩, ?_, ?_⟩
                              any_goals first | rfl | omega | (exfalso; omega)
                              all_goals exact fun _ j hj => uI_o (show ¬ (236 = 238 ∧ (189 + 6 * j) = 3) from fun e => absurd e.1 (Nat.ne_of_beq_eq_false rfl)))⟩
      ·
        refine ⟨⟨_, rfl, (by decide)⟩, ?_⟩
        refine Call_wp (lv := [some (vr 235), some (vi v0), some (vi 1)]) (by decide) ckX12_entry [] rfl rfl ?_
        refine ⟨_, rfl, (by decide), ?_⟩
        refine fun w0 hw0 => ?_; obtain rfl : w0 = some 236 := hw0.symm.trans (FS.g hF rfl)
        have n16 : (wr ((wr (184 + (wr (6 * v0)))) + 1)) = (wr (184 + (wr (6 * v0)))) + 1 := wr_id (show -2147483648 ≤ ((wr (184 + (wr (6 * v0)))) + 1 : Int) ∧ ((wr (184 + (wr (6 * v0)))) + 1 : Int) < 2147483648 from by omega)
        refine ⟨_, rfl, (by decide), (show (0 : Int) ≤ (wr ((wr (184 + (wr (6 * v0)))) + 1)) from by first | with_reducible assumption | omega | (simp only [wr, wl] at *; omega)), (show (wr ((wr (184 + (wr (6 * v0)))) + 1)) < (1340 : Int) from by first | with_reducible assumption | omega | (simp only [wr, wl] at *; omega)), ?_⟩
        have z17 : (I 236 (Int.toNat (wr ((wr (184 + (wr (6 * v0)))) + 1)))) = I 236 (185 + 6 * Int.toNat v0) := (rfl).trans (congrArg (I 236) (by omega))
        refine ⟨rfl, ?_⟩
        refine ⟨⟨_, rfl, (by decide)⟩, ?_⟩
        refine Call_wp (lv := [some (vr 235), some (vi v1), some (vi 1)]) (by decide) ckX12_entry [] rfl rfl ?_
        refine ⟨_, rfl, (by decide), ?_⟩
        refine fun w0 hw0 => ?_; obtain rfl : w0 = some 236 := hw0.symm.trans (FS.g hF rfl)
        have n18 : (wr ((wr (184 + (wr (6 * v1)))) + 1)) = (wr (184 + (wr (6 * v1)))) + 1 := wr_id (show -2147483648 ≤ ((wr (184 + (wr (6 * v1)))) + 1 : Int) ∧ ((wr (184 + (wr (6 * v1)))) + 1 : Int) < 2147483648 from by omega)
        refine ⟨_, rfl, (by decide), (show (0 : Int) ≤ (wr ((wr (184 + (wr (6 * v1)))) + 1)) from by first | with_reducible assumption | omega | (simp only [wr, wl] at *; omega)), (show (wr ((wr (184 + (wr (6 * v1)))) + 1)) < (1340 : Int) from by first | with_reducible assumption | omega | (simp only [wr, wl] at *; omega)), ?_⟩
        have z19 : (I 236 (Int.toNat (wr ((wr (184 + (wr (6 * v1)))) + 1)))) = I 236 (185 + 6 * Int.toNat v1) := (rfl).trans (congrArg (I 236) (by omega))
        refine ⟨rfl, ?_⟩
        have a20 : -2147483648 ≤ (I 236 (Int.toNat (wr ((wr (184 + (wr (6 * v0)))) + 1)))) ∧ (I 236 (Int.toNat (wr ((wr (184 + (wr (6 * v0)))) + 1)))) < 2147483648 := hA.1 _ _
        have a21 : -2147483648 ≤ (I 236 (Int.toNat (wr ((wr (184 + (wr (6 * v1)))) + 1)))) ∧ (I 236 (Int.toNat (wr ((wr (184 + (wr (6 * v1)))) + 1)))) < 2147483648 := hA.1 _ _
        refine ⟨fun (c22 : (¬ ((I 236 (Int.toNat (wr ((wr (184 + (wr (6 * v0)))) + 1)))) : Int) = (I 236 (Int.toNat (wr ((wr (184 + (wr (6 * v1)))) + 1)))))) => ?_, fun (c22 : (((I 236 (Int.toNat (wr ((wr (184 + (wr (6 * v0)))) + 1)))) : Int) = (I 236 (Int.toNat (wr ((wr (184 + (wr (6 * v1)))) + 1)))))) => ?_⟩
        ·
          refine ⟨fun (c23 : ((v1 : Int) ≤ v0)) => ?_, fun (c23 : (¬ ((v1 : Int) ≤ v0))) => ?_⟩
          ·
            refine ⟨⟨_, rfl, (by decide)⟩, ?_⟩
            refine s_X12_finding hF (v := (-1000003)) (by decide) ?_
            exact ⟨rfl, fun hv hA' => hQ _ _ (Rg.u hR (Pr_f rfl)) hA' (hv _ rfl) (fun ka ja hk => (uI_o (show ¬ (ka = 238 ∧ ja = 3) from by first | (intro e; obtain ⟨rfl, rfl⟩ := e; exact hk (by decide)) | omega))) (show ((¬ ((0 ≤ v0 ∧ v0 < I 236 1) ∧ 0 ≤ v1 ∧ v1 < I 236 1) → (-1000003) = -1000001) ∧ (((0 ≤ v0 ∧ v0 < I 236 1) ∧ 0 ≤ v1 ∧ v1 < I 236 1) → (¬ (v0 < v1 ∧ I 236 (184 + 6 * (Int.toNat v0)) = I 236 (184 + 6 * (Int.toNat v1)) ∧ I 236 (185 + 6 * (Int.toNat v0)) = I 236 (185 + 6 * (Int.toNat v1)) ∧ I 236 (189 + 6 * (Int.toNat v0)) < 0) → (-1000003) = -1000003) ∧ ((v0 < v1 ∧ I 236 (184 + 6 * (Int.toNat v0)) = I 236 (184 + 6 * (Int.toNat v1)) ∧ I 236 (185 + 6 * (Int.toNat v0)) = I 236 (185 + 6 * (Int.toNat v1)) ∧ I 236 (189 + 6 * (Int.toNat v0)) < 0) → (-1000003) = 1))) ∧ ((-1000003) < 0 → ∀ j : Nat, j < 20 → (uI I 238 3 (wr ((I 238 3) + 1))) 236 (189 + 6 * j) = I 236 (189 + 6 * j)) ∧ (0 ≤ (-1000003) → ∀ j : Nat, j < 20 → ((j : Int) = v0 → (uI I 238 3 (wr ((I 238 3) + 1))) 236 (189 + 6 * j) = v1) ∧ (¬ (j : Int) = v0 → (uI I 238 3 (wr ((I 238 3) + 1))) 236 (189 + 6 * j) = I 236 (189 + 6 * j))) from by
                              refine ⟨⟨fun z => ?_, fun z => ⟨fun b => ?_, fun b => ?_⟩⟩, ?_, ?_⟩
                              any_goals first | rfl | omega | (exfalso; omega)
                              all_goals exact fun _ j hj => uI_o (show ¬ (236 = 238 ∧ (189 + 6 * j) = 3) from fun e => absurd e.1 (Nat.ne_of_beq_eq_false rfl)))⟩
          ·
            refine ⟨fun _ => ?_, fun c => absurd (show ((0 : Int) = 0) from by decide) c⟩
            refine ⟨⟨_, rfl, (by decide)⟩, ?_⟩
            refine s_X12_finding hF (v := (-1000003)) (by decide) ?_
            exact ⟨rfl, fun hv hA' => hQ _ _ (Rg.u hR (Pr_f rfl)) hA' (hv _ rfl) (fun ka ja hk => (uI_o (show ¬ (ka = 238 ∧ ja = 3) from by first | (intro e; obtain ⟨rfl, rfl⟩ := e; exact hk (by decide)) | omega))) (show ((¬ ((0 ≤ v0 ∧ v0 < I 236 1) ∧ 0 ≤ v1 ∧ v1 < I 236 1) → (-1000003) = -1000001) ∧ (((0 ≤ v0 ∧ v0 < I 236 1) ∧ 0 ≤ v1 ∧ v1 < I 236 1) → (¬ (v0 < v1 ∧ I 236 (184 + 6 * (Int.toNat v0)) = I 236 (184 + 6 * (Int.toNat v1)) ∧ I 236 (185 + 6 * (Int.toNat v0)) = I 236 (185 + 6 * (Int.toNat v1)) ∧ I 236 (189 + 6 * (Int.toNat v0)) < 0) → (-1000003) = -1000003) ∧ ((v0 < v1 ∧ I 236 (184 + 6 * (Int.toNat v0)) = I 236 (184 + 6 * (Int.toNat v1)) ∧ I 236 (185 + 6 * (Int.toNat v0)) = I 236 (185 + 6 * (Int.toNat v1)) ∧ I 236 (189 + 6 * (Int.toNat v0)) < 0) → (-1000003) = 1))) ∧ ((-1000003) < 0 → ∀ j : Nat, j < 20 → (uI I 238 3 (wr ((I 238 3) + 1))) 236 (189 + 6 * j) = I 236 (189 + 6 * j)) ∧ (0 ≤ (-1000003) → ∀ j : Nat, j < 20 → ((j : Int) = v0 → (uI I 238 3 (wr ((I 238 3) + 1))) 236 (189 + 6 * j) = v1) ∧ (¬ (j : Int) = v0 → (uI I 238 3 (wr ((I 238 3) + 1))) 236 (189 + 6 * j) = I 236 (189 + 6 * j))) from by
                              refine ⟨⟨fun z => ?_, fun z => ⟨fun b => ?_, fun b => ?_⟩⟩, ?_, ?_⟩
                              any_goals first | rfl | omega | (exfalso; omega)
                              all_goals exact fun _ j hj => uI_o (show ¬ (236 = 238 ∧ (189 + 6 * j) = 3) from fun e => absurd e.1 (Nat.ne_of_beq_eq_false rfl)))⟩
        ·
          refine ⟨fun (c24 : ((v1 : Int) ≤ v0)) => ?_, fun (c24 : (¬ ((v1 : Int) ≤ v0))) => ?_⟩
          ·
            refine ⟨⟨_, rfl, (by decide)⟩, ?_⟩
            refine s_X12_finding hF (v := (-1000003)) (by decide) ?_
            exact ⟨rfl, fun hv hA' => hQ _ _ (Rg.u hR (Pr_f rfl)) hA' (hv _ rfl) (fun ka ja hk => (uI_o (show ¬ (ka = 238 ∧ ja = 3) from by first | (intro e; obtain ⟨rfl, rfl⟩ := e; exact hk (by decide)) | omega))) (show ((¬ ((0 ≤ v0 ∧ v0 < I 236 1) ∧ 0 ≤ v1 ∧ v1 < I 236 1) → (-1000003) = -1000001) ∧ (((0 ≤ v0 ∧ v0 < I 236 1) ∧ 0 ≤ v1 ∧ v1 < I 236 1) → (¬ (v0 < v1 ∧ I 236 (184 + 6 * (Int.toNat v0)) = I 236 (184 + 6 * (Int.toNat v1)) ∧ I 236 (185 + 6 * (Int.toNat v0)) = I 236 (185 + 6 * (Int.toNat v1)) ∧ I 236 (189 + 6 * (Int.toNat v0)) < 0) → (-1000003) = -1000003) ∧ ((v0 < v1 ∧ I 236 (184 + 6 * (Int.toNat v0)) = I 236 (184 + 6 * (Int.toNat v1)) ∧ I 236 (185 + 6 * (Int.toNat v0)) = I 236 (185 + 6 * (Int.toNat v1)) ∧ I 236 (189 + 6 * (Int.toNat v0)) < 0) → (-1000003) = 1))) ∧ ((-1000003) < 0 → ∀ j : Nat, j < 20 → (uI I 238 3 (wr ((I 238 3) + 1))) 236 (189 + 6 * j) = I 236 (189 + 6 * j)) ∧ (0 ≤ (-1000003) → ∀ j : Nat, j < 20 → ((j : Int) = v0 → (uI I 238 3 (wr ((I 238 3) + 1))) 236 (189 + 6 * j) = v1) ∧ (¬ (j : Int) = v0 → (uI I 238 3 (wr ((I 238 3) + 1))) 236 (189 + 6 * j) = I 236 (189 + 6 * j))) from by
                              refine ⟨⟨fun z => ?_, fun z => ⟨fun b => ?_, fun b => ?_⟩⟩, ?_, ?_⟩
                              any_goals first | rfl | omega | (exfalso; omega)
                              all_goals exact fun _ j hj => uI_o (show ¬ (236 = 238 ∧ (189 + 6 * j) = 3) from fun e => absurd e.1 (Nat.ne_of_beq_eq_false rfl)))⟩
          ·
            refine ⟨fun c => absurd c (show (¬ ((1 : Int) = 0)) from by decide), fun _ => ?_⟩
            refine ⟨⟨_, rfl, (by decide)⟩, ?_⟩
            refine Call_wp (lv := [some (vr 235), some (vi v0), some (vi 5)]) (by decide) ckX12_entry [] rfl rfl ?_
            refine ⟨_, rfl, (by decide), ?_⟩
            refine fun w0 hw0 => ?_; obtain rfl : w0 = some 236 := hw0.symm.trans (FS.g hF rfl)
            have n25 : (wr ((wr (184 + (wr (6 * v0)))) + 5)) = (wr (184 + (wr (6 * v0)))) + 5 := wr_id (show -2147483648 ≤ ((wr (184 + (wr (6 * v0)))) + 5 : Int) ∧ ((wr (184 + (wr (6 * v0)))) + 5 : Int) < 2147483648 from by omega)
            refine ⟨_, rfl, (by decide), (show (0 : Int) ≤ (wr ((wr (184 + (wr (6 * v0)))) + 5)) from by first | with_reducible assumption | omega | (simp only [wr, wl] at *; omega)), (show (wr ((wr (184 + (wr (6 * v0)))) + 5)) < (1340 : Int) from by first | with_reducible assumption | omega | (simp only [wr, wl] at *; omega)), ?_⟩
            have z26 : (I 236 (Int.toNat (wr ((wr (184 + (wr (6 * v0)))) + 5)))) = I 236 (189 + 6 * Int.toNat v0) := (rfl).trans (congrArg (I 236) (by omega))
            refine ⟨rfl, ?_⟩
            have a27 : -2147483648 ≤ (I 236 (Int.toNat (wr ((wr (184 + (wr (6 * v0)))) + 5)))) ∧ (I 236 (Int.toNat (wr ((wr (184 + (wr (6 * v0)))) + 5)))) < 2147483648 := hA.1 _ _
            refine ⟨fun (c28 : (((I 236 (Int.toNat (wr ((wr (184 + (wr (6 * v0)))) + 5)))) : Int) < 0)) => ?_, fun (c28 : (¬ (((I 236 (Int.toNat (wr ((wr (184 + (wr (6 * v0)))) + 5)))) : Int) < 0))) => ?_⟩
            ·
              refine ⟨_, rfl, (by decide), ?_⟩
              refine fun w0 hw0 => ?_; obtain rfl : w0 = some 236 := hw0.symm.trans (FS.g hF rfl)
              refine ⟨_, rfl, (by decide), (show (0 : Int) ≤ (wr ((wr (184 + (wr (6 * v0)))) + 5)) from by first | with_reducible assumption | omega | (simp only [wr, wl] at *; omega)), (show (wr ((wr (184 + (wr (6 * v0)))) + 5)) < (1340 : Int) from by first | with_reducible assumption | omega | (simp only [wr, wl] at *; omega)), ?_⟩
              have p29 : Pn (Int.toNat (wr ((wr (184 + (wr (6 * v0)))) + 5))) v1 := by apply Pn_w <;> omega
              exact ⟨rfl, fun hv hA' => hQ _ _ (Rg.u hR (Pr_n p29)) hA' (hv _ rfl) (fun ka ja hk => (uI_o (show ¬ (ka = 236 ∧ ja = (Int.toNat (wr ((wr (184 + (wr (6 * v0)))) + 5)))) from by omega))) (show ((¬ ((0 ≤ v0 ∧ v0 < I 236 1) ∧ 0 ≤ v1 ∧ v1 < I 236 1) → 1 = -1000001) ∧ (((0 ≤ v0 ∧ v0 < I 236 1) ∧ 0 ≤ v1 ∧ v1 < I 236 1) → (¬ (v0 < v1 ∧ I 236 (184 + 6 * (Int.toNat v0)) = I 236 (184 + 6 * (Int.toNat v1)) ∧ I 236 (185 + 6 * (Int.toNat v0)) = I 236 (185 + 6 * (Int.toNat v1)) ∧ I 236 (189 + 6 * (Int.toNat v0)) < 0) → 1 = -1000003) ∧ ((v0 < v1 ∧ I 236 (184 + 6 * (Int.toNat v0)) = I 236 (184 + 6 * (Int.toNat v1)) ∧ I 236 (185 + 6 * (Int.toNat v0)) = I 236 (185 + 6 * (Int.toNat v1)) ∧ I 236 (189 + 6 * (Int.toNat v0)) < 0) → 1 = 1))) ∧ (1 < 0 → ∀ j : Nat, j < 20 → (uI I 236 (Int.toNat (wr ((wr (184 + (wr (6 * v0)))) + 5))) v1) 236 (189 + 6 * j) = I 236 (189 + 6 * j)) ∧ (0 ≤ 1 → ∀ j : Nat, j < 20 → ((j : Int) = v0 → (uI I 236 (Int.toNat (wr ((wr (184 + (wr (6 * v0)))) + 5))) v1) 236 (189 + 6 * j) = v1) ∧ (¬ (j : Int) = v0 → (uI I 236 (Int.toNat (wr ((wr (184 + (wr (6 * v0)))) + 5))) v1) 236 (189 + 6 * j) = I 236 (189 + 6 * j))) from by
                              refine ⟨⟨fun z => ?_, fun z => ⟨fun b => ?_, fun b => ?_⟩⟩, ?_, ?_⟩
                              any_goals first | rfl | omega | (exfalso; omega)
                              all_goals exact fun _ j hj => ⟨fun e => uJ_eqj (show (189 + 6 * j) = (Int.toNat (wr ((wr (184 + (wr (6 * v0)))) + 5))) from by omega), fun e => uJ_ne (show ¬ (189 + 6 * j) = (Int.toNat (wr ((wr (184 + (wr (6 * v0)))) + 5))) from by omega)⟩)⟩
            ·
              refine ⟨⟨_, rfl, (by decide)⟩, ?_⟩
              refine s_X12_finding hF (v := (-1000003)) (by decide) ?_
              exact ⟨rfl, fun hv hA' => hQ _ _ (Rg.u hR (Pr_f rfl)) hA' (hv _ rfl) (fun ka ja hk => (uI_o (show ¬ (ka = 238 ∧ ja = 3) from by first | (intro e; obtain ⟨rfl, rfl⟩ := e; exact hk (by decide)) | omega))) (show ((¬ ((0 ≤ v0 ∧ v0 < I 236 1) ∧ 0 ≤ v1 ∧ v1 < I 236 1) → (-1000003) = -1000001) ∧ (((0 ≤ v0 ∧ v0 < I 236 1) ∧ 0 ≤ v1 ∧ v1 < I 236 1) → (¬ (v0 < v1 ∧ I 236 (184 + 6 * (Int.toNat v0)) = I 236 (184 + 6 * (Int.toNat v1)) ∧ I 236 (185 + 6 * (Int.toNat v0)) = I 236 (185 + 6 * (Int.toNat v1)) ∧ I 236 (189 + 6 * (Int.toNat v0)) < 0) → (-1000003) = -1000003) ∧ ((v0 < v1 ∧ I 236 (184 + 6 * (Int.toNat v0)) = I 236 (184 + 6 * (Int.toNat v1)) ∧ I 236 (185 + 6 * (Int.toNat v0)) = I 236 (185 + 6 * (Int.toNat v1)) ∧ I 236 (189 + 6 * (Int.toNat v0)) < 0) → (-1000003) = 1))) ∧ ((-1000003) < 0 → ∀ j : Nat, j < 20 → (uI I 238 3 (wr ((I 238 3) + 1))) 236 (189 + 6 * j) = I 236 (189 + 6 * j)) ∧ (0 ≤ (-1000003) → ∀ j : Nat, j < 20 → ((j : Int) = v0 → (uI I 238 3 (wr ((I 238 3) + 1))) 236 (189 + 6 * j) = v1) ∧ (¬ (j : Int) = v0 → (uI I 238 3 (wr ((I 238 3) + 1))) 236 (189 + 6 * j) = I 236 (189 + 6 * j))) from by
                              refine ⟨⟨fun z => ?_, fun z => ⟨fun b => ?_, fun b => ?_⟩⟩, ?_, ?_⟩
                              any_goals first | rfl | omega | (exfalso; omega)
                              all_goals exact fun _ j hj => uI_o (show ¬ (236 = 238 ∧ (189 + 6 * j) = 3) from fun e => absurd e.1 (Nat.ne_of_beq_eq_false rfl)))⟩
    ·
      refine ⟨fun c => absurd (show ((0 : Int) = 0) from by decide) c, fun _ => ?_⟩
      refine ⟨⟨_, rfl, (by decide)⟩, ?_⟩
      refine s_X12_finding hF (v := (-1000001)) (by decide) ?_
      exact ⟨rfl, fun hv hA' => hQ _ _ (Rg.u hR (Pr_f rfl)) hA' (hv _ rfl) (fun ka ja hk => (uI_o (show ¬ (ka = 238 ∧ ja = 1) from by first | (intro e; obtain ⟨rfl, rfl⟩ := e; exact hk (by decide)) | omega))) (show ((¬ ((0 ≤ v0 ∧ v0 < I 236 1) ∧ 0 ≤ v1 ∧ v1 < I 236 1) → (-1000001) = -1000001) ∧ (((0 ≤ v0 ∧ v0 < I 236 1) ∧ 0 ≤ v1 ∧ v1 < I 236 1) → (¬ (v0 < v1 ∧ I 236 (184 + 6 * (Int.toNat v0)) = I 236 (184 + 6 * (Int.toNat v1)) ∧ I 236 (185 + 6 * (Int.toNat v0)) = I 236 (185 + 6 * (Int.toNat v1)) ∧ I 236 (189 + 6 * (Int.toNat v0)) < 0) → (-1000001) = -1000003) ∧ ((v0 < v1 ∧ I 236 (184 + 6 * (Int.toNat v0)) = I 236 (184 + 6 * (Int.toNat v1)) ∧ I 236 (185 + 6 * (Int.toNat v0)) = I 236 (185 + 6 * (Int.toNat v1)) ∧ I 236 (189 + 6 * (Int.toNat v0)) < 0) → (-1000001) = 1))) ∧ ((-1000001) < 0 → ∀ j : Nat, j < 20 → (uI I 238 1 (wr ((I 238 1) + 1))) 236 (189 + 6 * j) = I 236 (189 + 6 * j)) ∧ (0 ≤ (-1000001) → ∀ j : Nat, j < 20 → ((j : Int) = v0 → (uI I 238 1 (wr ((I 238 1) + 1))) 236 (189 + 6 * j) = v1) ∧ (¬ (j : Int) = v0 → (uI I 238 1 (wr ((I 238 1) + 1))) 236 (189 + 6 * j) = I 236 (189 + 6 * j))) from by
                              refine ⟨⟨fun z => ?_, fun z => ⟨fun b => ?_, fun b => ?_⟩⟩, ?_, ?_⟩
                              any_goals first | rfl | omega | (exfalso; omega)
                              all_goals exact fun _ j hj => uI_o (show ¬ (236 = 238 ∧ (189 + 6 * j) = 1) from fun e => absurd e.1 (Nat.ne_of_beq_eq_false rfl)))⟩
  ·
    refine ⟨fun _ => ?_, fun c => absurd (show ((0 : Int) = 0) from by decide) c⟩
    refine ⟨⟨_, rfl, (by decide)⟩, ?_⟩
    refine s_X12_finding hF (v := (-1000001)) (by decide) ?_
    exact ⟨rfl, fun hv hA' => hQ _ _ (Rg.u hR (Pr_f rfl)) hA' (hv _ rfl) (fun ka ja hk => (uI_o (show ¬ (ka = 238 ∧ ja = 1) from by first | (intro e; obtain ⟨rfl, rfl⟩ := e; exact hk (by decide)) | omega))) (show ((¬ ((0 ≤ v0 ∧ v0 < I 236 1) ∧ 0 ≤ v1 ∧ v1 < I 236 1) → (-1000001) = -1000001) ∧ (((0 ≤ v0 ∧ v0 < I 236 1) ∧ 0 ≤ v1 ∧ v1 < I 236 1) → (¬ (v0 < v1 ∧ I 236 (184 + 6 * (Int.toNat v0)) = I 236 (184 + 6 * (Int.toNat v1)) ∧ I 236 (185 + 6 * (Int.toNat v0)) = I 236 (185 + 6 * (Int.toNat v1)) ∧ I 236 (189 + 6 * (Int.toNat v0)) < 0) → (-1000001) = -1000003) ∧ ((v0 < v1 ∧ I 236 (184 + 6 * (Int.toNat v0)) = I 236 (184 + 6 * (Int.toNat v1)) ∧ I 236 (185 + 6 * (Int.toNat v0)) = I 236 (185 + 6 * (Int.toNat v1)) ∧ I 236 (189 + 6 * (Int.toNat v0)) < 0) → (-1000001) = 1))) ∧ ((-1000001) < 0 → ∀ j : Nat, j < 20 → (uI I 238 1 (wr ((I 238 1) + 1))) 236 (189 + 6 * j) = I 236 (189 + 6 * j)) ∧ (0 ≤ (-1000001) → ∀ j : Nat, j < 20 → ((j : Int) = v0 → (uI I 238 1 (wr ((I 238 1) + 1))) 236 (189 + 6 * j) = v1) ∧ (¬ (j : Int) = v0 → (uI I 238 1 (wr ((I 238 1) + 1))) 236 (189 + 6 * j) = I 236 (189 + 6 * j))) from by
                              refine ⟨⟨fun z => ?_, fun z => ⟨fun b => ?_, fun b => ?_⟩⟩, ?_, ?_⟩
                              any_goals first | rfl | omega | (exfalso; omega)
                              all_goals exact fun _ j hj => uI_o (show ¬ (236 = 238 ∧ (189 + 6 * j) = 1) from fun e => absurd e.1 (Nat.ne_of_beq_eq_false rfl)))⟩
/-- the latest entry of a lot and a law that isn't taken back -/
def ltF (X Y Z : Nat → Int) (a b : Int) : Nat → Int
  | 0 => -1
  | k + 1 => if X k = a ∧ Y k = b ∧ Z k < 0 then (k : Int) else ltF X Y Z a b k
theorem ltF_y {X Y Z : Nat → Int} {a b : Int} {k : Nat} (h : X k = a ∧ Y k = b ∧ Z k < 0) : ltF X Y Z a b (k + 1) = (k : Int) := if_pos h
theorem ltF_n {X Y Z : Nat → Int} {a b : Int} {k : Nat} (h : ¬ (X k = a ∧ Y k = b ∧ Z k < 0)) : ltF X Y Z a b (k + 1) = ltF X Y Z a b k := if_neg h
theorem ltF_b {X Y Z : Nat → Int} {a b : Int} : ∀ k : Nat, -1 ≤ ltF X Y Z a b k ∧ ltF X Y Z a b k < k := by
  intro k
  induction k with
  | zero => exact ⟨by show (-1 : Int) ≤ -1; omega, by show (-1 : Int) < ((0 : Nat) : Int); omega⟩
  | succ k ih =>
    by_cases c : X k = a ∧ Y k = b ∧ Z k < 0
    · rw [ltF_y c]; omega
    · rw [ltF_n c]; omega
theorem ltF_e {X Y Z X' Y' Z' : Nat → Int} {a b : Int} : ∀ m : Nat, (∀ k, k < m → X k = X' k ∧ Y k = Y' k ∧ Z k = Z' k) → ltF X Y Z a b m = ltF X' Y' Z' a b m := by
  intro m
  induction m with
  | zero => intro _; rfl
  | succ m ih =>
    intro h
    have g := h m (by omega)
    have i := ih (fun k hk => h k (by omega))
    by_cases c : X m = a ∧ Y m = b ∧ Z m < 0
    · rw [ltF_y c, ltF_y ⟨by omega, by omega, by omega⟩]
    · rw [ltF_n c, ltF_n (fun z => c ⟨by omega, by omega, by omega⟩), i]
theorem c_book11_l (hF : FS F) (hR : Rg I) {v0 v1 : Int} (hc : 0 ≤ I 12 6 ∧ I 12 6 ≤ 20) (hQ : ∀ (r : Int) , (r = ltF (fun j => I 13 j) (fun j => I 14 j) (fun j => I 18 j) v0 v1 (Int.toNat (I 12 6))) → Q (some (vi r)) F I) : ∀ (mz : Nat) (la e : Int) , (((-1) : Int) ≤ la) → ((la : Int) ≤ 19) → ((0 : Int) ≤ e) → ((e : Int) ≤ 20) → (e ≤ I 12 6) → (la = ltF (fun j => I 13 j) (fun j => I 14 j) (fun j => I 18 j) v0 v1 (Int.toNat e)) → (20 - e).toNat < mz → GoN G d kX0_latest NP NP 5 [some (vr 12), some (vi v0), some (vi v1), some (vi la), some (vi e)] [] F I Q := by
  intro mz
  induction mz with
  | zero => intro la e _ _ _ _ _ _ h; exact absurd h (Nat.not_lt_zero _)
  | succ mz ih =>
    intro la e cc100 cc101 cc102 cc103 cc104 cc105 hm
    refine GoN_in (fun hok hA => ?_)
    have iiv0 : -2147483648 ≤ v0 ∧ v0 < 2147483648 := hok 1 _ rfl
    have iiv1 : -2147483648 ≤ v1 ∧ v1 < 2147483648 := hok 2 _ rfl
    have iila : -2147483648 ≤ la ∧ la < 2147483648 := hok 3 _ rfl
    have iie : -2147483648 ≤ e ∧ e < 2147483648 := hok 4 _ rfl
    have tb := ltF_b (X := fun j => I 13 j) (Y := fun j => I 14 j) (Z := fun j => I 18 j) (a := v0) (b := v1) (Int.toNat e)
    rw [← cc105] at tb
    have a1 : -2147483648 ≤ (I 12 6) ∧ (I 12 6) < 2147483648 := hA.1 _ _
    refine Go_wp (by decide) ckX0_latest [5] ?_
    refine ⟨_, rfl, (by decide), ?_⟩
    refine ⟨fun (c2 : (((I 12 6) : Int) ≤ e)) => ?_, fun (c2 : (¬ (((I 12 6) : Int) ≤ e))) => ?_⟩
    ·
      exact ⟨rfl, hQ _ ((by
                              have h := cc105
                              rw [show Int.toNat (I 12 6) = Int.toNat e from by omega]
                              exact h))⟩
    ·
      refine ⟨fun (c3 : ((20 : Int) ≤ e)) => ?_, fun (c3 : (¬ ((20 : Int) ≤ e))) => ?_⟩
      ·
        exact ⟨rfl, hQ _ ((by
                              have h := cc105
                              rw [show Int.toNat (I 12 6) = Int.toNat e from by omega]
                              exact h))⟩
      ·
        refine ⟨_, rfl, (by decide), ?_⟩
        refine fun w0 hw0 => ?_; obtain rfl : w0 = some 13 := hw0.symm.trans (FS.g hF rfl)
        refine ⟨_, rfl, (by decide), (show (0 : Int) ≤ e from by first | with_reducible assumption | omega | (simp only [wr, wl] at *; omega)), (show e < (20 : Int) from by first | with_reducible assumption | omega | (simp only [wr, wl] at *; omega)), ?_⟩
        have a4 : -2147483648 ≤ (I 13 (Int.toNat e)) ∧ (I 13 (Int.toNat e)) < 2147483648 := hA.1 _ _
        refine ⟨fun (c5 : (¬ ((I 13 (Int.toNat e)) : Int) = v0)) => ?_, fun (c5 : (((I 13 (Int.toNat e)) : Int) = v0)) => ?_⟩
        ·
          have n6 : (wr (e + 1)) = e + 1 := wr_id (show -2147483648 ≤ (e + 1 : Int) ∧ (e + 1 : Int) < 2147483648 from by omega)
          exact ih la (wr (e + 1))  (show ((-1) : Int) ≤ la from by first | with_reducible assumption | omega | (simp only [wr, wl] at *; omega)) (show (la : Int) ≤ 19 from by first | with_reducible assumption | omega | (simp only [wr, wl] at *; omega)) (show (0 : Int) ≤ (wr (e + 1)) from by first | with_reducible assumption | omega | (simp only [wr, wl] at *; omega)) (show ((wr (e + 1)) : Int) ≤ 20 from by first | with_reducible assumption | omega | (simp only [wr, wl] at *; omega)) (show (wr (e + 1)) ≤ I 12 6 from by first | with_reducible assumption | omega | (simp only [wr, wl] at *; omega)) (show la = ltF (fun j => I 13 j) (fun j => I 14 j) (fun j => I 18 j) v0 v1 (Int.toNat (wr (e + 1))) from (by
                              have h := cc105
                              rw [show Int.toNat (wr (e + 1)) = Int.toNat e + 1 from by omega]
                              first
                                | (rw [ltF_y (show I 13 (Int.toNat e) = v0 ∧ I 14 (Int.toNat e) = v1 ∧ I 18 (Int.toNat e) < 0 from ⟨by omega, by omega, by omega⟩)]; omega)
                                | (rw [ltF_n (show ¬ (I 13 (Int.toNat e) = v0 ∧ I 14 (Int.toNat e) = v1 ∧ I 18 (Int.toNat e) < 0) from fun q => by omega)]; exact h))) (show (20 - (wr (e + 1))).toNat < mz from by omega)
        ·
          refine ⟨_, rfl, (by decide), ?_⟩
          refine fun w0 hw0 => ?_; obtain rfl : w0 = some 14 := hw0.symm.trans (FS.g hF rfl)
          refine ⟨_, rfl, (by decide), (show (0 : Int) ≤ e from by first | with_reducible assumption | omega | (simp only [wr, wl] at *; omega)), (show e < (20 : Int) from by first | with_reducible assumption | omega | (simp only [wr, wl] at *; omega)), ?_⟩
          have a7 : -2147483648 ≤ (I 14 (Int.toNat e)) ∧ (I 14 (Int.toNat e)) < 2147483648 := hA.1 _ _
          refine ⟨fun (c8 : (¬ ((I 14 (Int.toNat e)) : Int) = v1)) => ?_, fun (c8 : (((I 14 (Int.toNat e)) : Int) = v1)) => ?_⟩
          ·
            have n9 : (wr (e + 1)) = e + 1 := wr_id (show -2147483648 ≤ (e + 1 : Int) ∧ (e + 1 : Int) < 2147483648 from by omega)
            exact ih la (wr (e + 1))  (show ((-1) : Int) ≤ la from by first | with_reducible assumption | omega | (simp only [wr, wl] at *; omega)) (show (la : Int) ≤ 19 from by first | with_reducible assumption | omega | (simp only [wr, wl] at *; omega)) (show (0 : Int) ≤ (wr (e + 1)) from by first | with_reducible assumption | omega | (simp only [wr, wl] at *; omega)) (show ((wr (e + 1)) : Int) ≤ 20 from by first | with_reducible assumption | omega | (simp only [wr, wl] at *; omega)) (show (wr (e + 1)) ≤ I 12 6 from by first | with_reducible assumption | omega | (simp only [wr, wl] at *; omega)) (show la = ltF (fun j => I 13 j) (fun j => I 14 j) (fun j => I 18 j) v0 v1 (Int.toNat (wr (e + 1))) from (by
                              have h := cc105
                              rw [show Int.toNat (wr (e + 1)) = Int.toNat e + 1 from by omega]
                              first
                                | (rw [ltF_y (show I 13 (Int.toNat e) = v0 ∧ I 14 (Int.toNat e) = v1 ∧ I 18 (Int.toNat e) < 0 from ⟨by omega, by omega, by omega⟩)]; omega)
                                | (rw [ltF_n (show ¬ (I 13 (Int.toNat e) = v0 ∧ I 14 (Int.toNat e) = v1 ∧ I 18 (Int.toNat e) < 0) from fun q => by omega)]; exact h))) (show (20 - (wr (e + 1))).toNat < mz from by omega)
          ·
            refine ⟨_, rfl, (by decide), ?_⟩
            refine fun w0 hw0 => ?_; obtain rfl : w0 = some 18 := hw0.symm.trans (FS.g hF rfl)
            refine ⟨_, rfl, (by decide), (show (0 : Int) ≤ e from by first | with_reducible assumption | omega | (simp only [wr, wl] at *; omega)), (show e < (20 : Int) from by first | with_reducible assumption | omega | (simp only [wr, wl] at *; omega)), ?_⟩
            have a10 : -2147483648 ≤ (I 18 (Int.toNat e)) ∧ (I 18 (Int.toNat e)) < 2147483648 := hA.1 _ _
            refine ⟨fun (c11 : ((0 : Int) ≤ (I 18 (Int.toNat e)))) => ?_, fun (c11 : (¬ ((0 : Int) ≤ (I 18 (Int.toNat e))))) => ?_⟩
            ·
              have n12 : (wr (e + 1)) = e + 1 := wr_id (show -2147483648 ≤ (e + 1 : Int) ∧ (e + 1 : Int) < 2147483648 from by omega)
              exact ih la (wr (e + 1))  (show ((-1) : Int) ≤ la from by first | with_reducible assumption | omega | (simp only [wr, wl] at *; omega)) (show (la : Int) ≤ 19 from by first | with_reducible assumption | omega | (simp only [wr, wl] at *; omega)) (show (0 : Int) ≤ (wr (e + 1)) from by first | with_reducible assumption | omega | (simp only [wr, wl] at *; omega)) (show ((wr (e + 1)) : Int) ≤ 20 from by first | with_reducible assumption | omega | (simp only [wr, wl] at *; omega)) (show (wr (e + 1)) ≤ I 12 6 from by first | with_reducible assumption | omega | (simp only [wr, wl] at *; omega)) (show la = ltF (fun j => I 13 j) (fun j => I 14 j) (fun j => I 18 j) v0 v1 (Int.toNat (wr (e + 1))) from (by
                              have h := cc105
                              rw [show Int.toNat (wr (e + 1)) = Int.toNat e + 1 from by omega]
                              first
                                | (rw [ltF_y (show I 13 (Int.toNat e) = v0 ∧ I 14 (Int.toNat e) = v1 ∧ I 18 (Int.toNat e) < 0 from ⟨by omega, by omega, by omega⟩)]; omega)
                                | (rw [ltF_n (show ¬ (I 13 (Int.toNat e) = v0 ∧ I 14 (Int.toNat e) = v1 ∧ I 18 (Int.toNat e) < 0) from fun q => by omega)]; exact h))) (show (20 - (wr (e + 1))).toNat < mz from by omega)
            ·
              have n13 : (wr (e + 1)) = e + 1 := wr_id (show -2147483648 ≤ (e + 1 : Int) ∧ (e + 1 : Int) < 2147483648 from by omega)
              exact ih e (wr (e + 1))  (show ((-1) : Int) ≤ e from by first | with_reducible assumption | omega | (simp only [wr, wl] at *; omega)) (show (e : Int) ≤ 19 from by first | with_reducible assumption | omega | (simp only [wr, wl] at *; omega)) (show (0 : Int) ≤ (wr (e + 1)) from by first | with_reducible assumption | omega | (simp only [wr, wl] at *; omega)) (show ((wr (e + 1)) : Int) ≤ 20 from by first | with_reducible assumption | omega | (simp only [wr, wl] at *; omega)) (show (wr (e + 1)) ≤ I 12 6 from by first | with_reducible assumption | omega | (simp only [wr, wl] at *; omega)) (show e = ltF (fun j => I 13 j) (fun j => I 14 j) (fun j => I 18 j) v0 v1 (Int.toNat (wr (e + 1))) from (by
                              have h := cc105
                              rw [show Int.toNat (wr (e + 1)) = Int.toNat e + 1 from by omega]
                              first
                                | (rw [ltF_y (show I 13 (Int.toNat e) = v0 ∧ I 14 (Int.toNat e) = v1 ∧ I 18 (Int.toNat e) < 0 from ⟨by omega, by omega, by omega⟩)]; omega)
                                | (rw [ltF_n (show ¬ (I 13 (Int.toNat e) = v0 ∧ I 14 (Int.toNat e) = v1 ∧ I 18 (Int.toNat e) < 0) from fun q => by omega)]; exact h))) (show (20 - (wr (e + 1))).toNat < mz from by omega)
theorem c_latest11 (hF : FS F) (hR : Rg I) {v0 v1 : Int} (hc : 0 ≤ I 12 6 ∧ I 12 6 ≤ 20) (hQ : ∀ r : Int, iR r → (r = ltF (fun j => I 13 j) (fun j => I 14 j) (fun j => I 18 j) v0 v1 (Int.toNat (I 12 6))) → Q (some (vi r)) F I) : CallN G d kX0_latest [vr 12, vi v0, vi v1] NP F I Q := by
  refine CallN_in (fun hok hA => CallN_out ?_)
  have iv0 : -2147483648 ≤ v0 ∧ v0 < 2147483648 := hok (vi v0) (by simp)
  have iv1 : -2147483648 ≤ v1 ∧ v1 < 2147483648 := hok (vi v1) (by simp)
  refine Call_wp (lv := [some (vr 12), some (vi v0), some (vi v1), none, none]) (by decide) ckX0_latest [5] rfl rfl ?_
  have a1 : -2147483648 ≤ (I 12 6) ∧ (I 12 6) < 2147483648 := hA.1 _ _
  refine c_book11_l hF hR hc (fun r g3 hv hA' => hQ _ (hv _ rfl) g3) _ (-1) 0  (show ((-1) : Int) ≤ ((-1) : Int) from Int.le_refl _) (show (((-1) : Int) : Int) ≤ 19 from by first | with_reducible assumption | omega | (simp only [wr, wl] at *; omega)) (show (0 : Int) ≤ (0 : Int) from Int.le_refl _) (show ((0 : Int) : Int) ≤ 20 from by first | with_reducible assumption | omega | (simp only [wr, wl] at *; omega)) (show (0 : Int) ≤ I 12 6 from by first | with_reducible assumption | omega | (simp only [wr, wl] at *; omega)) (show ((-1) : Int) = ltF (fun j => I 13 j) (fun j => I 14 j) (fun j => I 18 j) v0 v1 (Int.toNat (0 : Int)) from rfl) (Nat.lt_succ_self _)
theorem c_book11 (hF : FS F) (hR : Rg I) {v0 v1 : Int} (he : 0 ≤ I 12 6 ∧ I 12 6 ≤ 20) (hQ : ∀ (r : Int) (I' : pI), Rg I' → AR I' → iR r → (∀ k j, ¬ (k = 203) → I' k j = I k j) → ((¬ ((0 ≤ v0 ∧ v0 ≤ 3) ∧ 0 ≤ v1 ∧ v1 ≤ 3) → r = -1000001) ∧ (((0 ≤ v0 ∧ v0 ≤ 3) ∧ 0 ≤ v1 ∧ v1 ≤ 3) → (ltF (fun j => I 13 j) (fun j => I 14 j) (fun j => I 18 j) v0 v1 (Int.toNat (I 12 6)) < 0 → r = -1000002) ∧ (¬ ltF (fun j => I 13 j) (fun j => I 14 j) (fun j => I 18 j) v0 v1 (Int.toNat (I 12 6)) < 0 → r = ltF (fun j => I 13 j) (fun j => I 14 j) (fun j => I 18 j) v0 v1 (Int.toNat (I 12 6))))) → Q (some (vi r)) F I') : CallN G (d + 3) kX11_book [vr 0, vi v0, vi v1] NP F I Q := by
  refine CallN_in (fun hok hA => CallN_out ?_)
  have iv0 : -2147483648 ≤ v0 ∧ v0 < 2147483648 := hok (vi v0) (by simp)
  have iv1 : -2147483648 ≤ v1 ∧ v1 < 2147483648 := hok (vi v1) (by simp)
  refine Call_wp (lv := [some (vr 0), some (vi v0), some (vi v1)]) (by decide) ckX11_book [] rfl rfl ?_
  refine s_X11_isLot (fun (w1 : ((0 : Int) ≤ v0 ∧ (v0 : Int) ≤ 3)) => ?_) (fun (w1 : ¬ ((0 : Int) ≤ v0 ∧ (v0 : Int) ≤ 3)) => ?_)
  ·
    refine ⟨fun c => absurd c (show (¬ ((1 : Int) = 0)) from by decide), fun _ => ?_⟩
    refine s_X11_isLaw (fun (w2 : ((0 : Int) ≤ v1 ∧ (v1 : Int) ≤ 3)) => ?_) (fun (w2 : ¬ ((0 : Int) ≤ v1 ∧ (v1 : Int) ≤ 3)) => ?_)
    ·
      refine ⟨fun _ => ?_, fun c => absurd c (show (¬ (1 : Int) = 0) from by decide)⟩
      refine ⟨_, rfl, (by decide), ?_⟩
      refine fun w0 hw0 => ?_; obtain rfl : w0 = some 1 := hw0.symm.trans (FS.g hF rfl)
      refine ⟨_, rfl, (by decide), ?_⟩
      refine fun w0 hw0 => ?_; obtain rfl : w0 = some 12 := hw0.symm.trans (FS.g hF rfl)
      refine ⟨⟨_, rfl, (by decide)⟩, ?_⟩
      refine c_latest11 (v0 := v0) (v1 := v1) hF hR he (fun vr3 hr4 qr5 => ?_)
      have hr4 : -2147483648 ≤ vr3 ∧ vr3 < 2147483648 := hr4
      refine ⟨⟨_, rfl, (by decide)⟩, ?_⟩
      refine Call_wp (lv := [some (vr 0), some (vi vr3)]) (by decide) ckX11_orNone [] rfl rfl ?_
      refine ⟨fun (c6 : ((0 : Int) ≤ vr3)) => ?_, fun (c6 : (¬ ((0 : Int) ≤ vr3))) => ?_⟩
      ·
        refine ⟨rfl, ?_⟩
        exact ⟨rfl, fun hv hA' => hQ _ _ hR hA' (hv _ rfl) (fun _ _ _ => rfl) (show (¬ ((0 ≤ v0 ∧ v0 ≤ 3) ∧ 0 ≤ v1 ∧ v1 ≤ 3) → vr3 = -1000001) ∧ (((0 ≤ v0 ∧ v0 ≤ 3) ∧ 0 ≤ v1 ∧ v1 ≤ 3) → (ltF (fun j => I 13 j) (fun j => I 14 j) (fun j => I 18 j) v0 v1 (Int.toNat (I 12 6)) < 0 → vr3 = -1000002) ∧ (¬ ltF (fun j => I 13 j) (fun j => I 14 j) (fun j => I 18 j) v0 v1 (Int.toNat (I 12 6)) < 0 → vr3 = ltF (fun j => I 13 j) (fun j => I 14 j) (fun j => I 18 j) v0 v1 (Int.toNat (I 12 6)))) from by
                              rw [← qr5]
                              refine ⟨fun z => ?_, fun z => ⟨fun b => ?_, fun b => ?_⟩⟩
                              all_goals first | rfl | omega | (exfalso; omega))⟩
      ·
        refine ⟨⟨_, rfl, (by decide)⟩, ?_⟩
        refine s_X11_refuse hF (e := 2) (by decide) ?_
        refine ⟨rfl, ?_⟩
        exact ⟨rfl, fun hv hA' => hQ _ _ (Rg.u hR (Pr_f rfl)) hA' (hv _ rfl) (fun ka ja hk => (uI_o (show ¬ (ka = 203 ∧ ja = 2) from by first | (intro e; obtain ⟨rfl, rfl⟩ := e; exact hk (by decide)) | omega))) (show (¬ ((0 ≤ v0 ∧ v0 ≤ 3) ∧ 0 ≤ v1 ∧ v1 ≤ 3) → (-1000002) = -1000001) ∧ (((0 ≤ v0 ∧ v0 ≤ 3) ∧ 0 ≤ v1 ∧ v1 ≤ 3) → (ltF (fun j => I 13 j) (fun j => I 14 j) (fun j => I 18 j) v0 v1 (Int.toNat (I 12 6)) < 0 → (-1000002) = -1000002) ∧ (¬ ltF (fun j => I 13 j) (fun j => I 14 j) (fun j => I 18 j) v0 v1 (Int.toNat (I 12 6)) < 0 → (-1000002) = ltF (fun j => I 13 j) (fun j => I 14 j) (fun j => I 18 j) v0 v1 (Int.toNat (I 12 6)))) from by
                              rw [← qr5]
                              refine ⟨fun z => ?_, fun z => ⟨fun b => ?_, fun b => ?_⟩⟩
                              all_goals first | rfl | omega | (exfalso; omega))⟩
    ·
      refine ⟨fun c => absurd (show ((0 : Int) = 0) from by decide) c, fun _ => ?_⟩
      refine ⟨⟨_, rfl, (by decide)⟩, ?_⟩
      refine s_X11_refuse hF (e := 1) (by decide) ?_
      exact ⟨rfl, fun hv hA' => hQ _ _ (Rg.u hR (Pr_f rfl)) hA' (hv _ rfl) (fun ka ja hk => (uI_o (show ¬ (ka = 203 ∧ ja = 1) from by first | (intro e; obtain ⟨rfl, rfl⟩ := e; exact hk (by decide)) | omega))) (show (¬ ((0 ≤ v0 ∧ v0 ≤ 3) ∧ 0 ≤ v1 ∧ v1 ≤ 3) → (-1000001) = -1000001) ∧ (((0 ≤ v0 ∧ v0 ≤ 3) ∧ 0 ≤ v1 ∧ v1 ≤ 3) → (ltF (fun j => I 13 j) (fun j => I 14 j) (fun j => I 18 j) v0 v1 (Int.toNat (I 12 6)) < 0 → (-1000001) = -1000002) ∧ (¬ ltF (fun j => I 13 j) (fun j => I 14 j) (fun j => I 18 j) v0 v1 (Int.toNat (I 12 6)) < 0 → (-1000001) = ltF (fun j => I 13 j) (fun j => I 14 j) (fun j => I 18 j) v0 v1 (Int.toNat (I 12 6)))) from by
                              refine ⟨fun z => ?_, fun z => ?_⟩
                              · first | rfl | omega
                              · exfalso; omega)⟩
  ·
    refine ⟨fun _ => ?_, fun c => absurd (show ((0 : Int) = 0) from by decide) c⟩
    refine ⟨⟨_, rfl, (by decide)⟩, ?_⟩
    refine s_X11_refuse hF (e := 1) (by decide) ?_
    exact ⟨rfl, fun hv hA' => hQ _ _ (Rg.u hR (Pr_f rfl)) hA' (hv _ rfl) (fun ka ja hk => (uI_o (show ¬ (ka = 203 ∧ ja = 1) from by first | (intro e; obtain ⟨rfl, rfl⟩ := e; exact hk (by decide)) | omega))) (show (¬ ((0 ≤ v0 ∧ v0 ≤ 3) ∧ 0 ≤ v1 ∧ v1 ≤ 3) → (-1000001) = -1000001) ∧ (((0 ≤ v0 ∧ v0 ≤ 3) ∧ 0 ≤ v1 ∧ v1 ≤ 3) → (ltF (fun j => I 13 j) (fun j => I 14 j) (fun j => I 18 j) v0 v1 (Int.toNat (I 12 6)) < 0 → (-1000001) = -1000002) ∧ (¬ ltF (fun j => I 13 j) (fun j => I 14 j) (fun j => I 18 j) v0 v1 (Int.toNat (I 12 6)) < 0 → (-1000001) = ltF (fun j => I 13 j) (fun j => I 14 j) (fun j => I 18 j) v0 v1 (Int.toNat (I 12 6)))) from by
                              refine ⟨fun z => ?_, fun z => ?_⟩
                              · first | rfl | omega
                              · exfalso; omega)⟩
theorem r_book11_l (hF : FS F) (hR : Rg I) {v0 v1 : Int} (hc : 0 ≤ I 236 1 ∧ I 236 1 ≤ 20) (hok : (0 ≤ v0 ∧ v0 ≤ 3) ∧ 0 ≤ v1 ∧ v1 ≤ 3) (hQ : ∀ (r : Int) (I' : pI), Rg I' → (∀ k j, ¬ (k = 238) → I' k j = I k j) → ((¬ ((0 ≤ v0 ∧ v0 ≤ 3) ∧ 0 ≤ v1 ∧ v1 ≤ 3) → r = -1000001) ∧ (((0 ≤ v0 ∧ v0 ≤ 3) ∧ 0 ≤ v1 ∧ v1 ≤ 3) → (ltF (fun j => I 236 (184 + 6 * j)) (fun j => I 236 (185 + 6 * j)) (fun j => I 236 (189 + 6 * j)) v0 v1 (Int.toNat (I 236 1)) < 0 → r = -1000002) ∧ (¬ ltF (fun j => I 236 (184 + 6 * j)) (fun j => I 236 (185 + 6 * j)) (fun j => I 236 (189 + 6 * j)) v0 v1 (Int.toNat (I 236 1)) < 0 → r = ltF (fun j => I 236 (184 + 6 * j)) (fun j => I 236 (185 + 6 * j)) (fun j => I 236 (189 + 6 * j)) v0 v1 (Int.toNat (I 236 1))))) → Q (some (vi r)) F I') : ∀ (mz : Nat) (la e : Int) (J : pI), Rg J → (∀ k j, ¬ (k = 238) → J k j = I k j) → (((-1) : Int) ≤ la) → ((la : Int) ≤ 19) → ((0 : Int) ≤ e) → ((e : Int) ≤ 20) → (e ≤ I 236 1) → (la = ltF (fun j => I 236 (184 + 6 * j)) (fun j => I 236 (185 + 6 * j)) (fun j => I 236 (189 + 6 * j)) v0 v1 (Int.toNat e)) → ((J 236 1) = I 236 1) → (20 - e).toNat < mz → GoN G (d + 1) kX12_book NP NP 26 [some (vr 235), some (vi v0), some (vi v1), some (vi la), some (vi e)] [] F J Q := by
  intro mz
  induction mz with
  | zero => intro la e J hJ hV _ _ _ _ _ _ _ h; exact absurd h (Nat.not_lt_zero _)
  | succ mz ih =>
    intro la e J hJ hV cc100 cc101 cc102 cc103 cc104 cc105 cc106 hm
    refine GoN_in (fun hok hA => ?_)
    have iiv0 : -2147483648 ≤ v0 ∧ v0 < 2147483648 := hok 1 _ rfl
    have iiv1 : -2147483648 ≤ v1 ∧ v1 < 2147483648 := hok 2 _ rfl
    have iila : -2147483648 ≤ la ∧ la < 2147483648 := hok 3 _ rfl
    have iie : -2147483648 ≤ e ∧ e < 2147483648 := hok 4 _ rfl
    have tb := ltF_b (X := fun j => I 236 (184 + 6 * j)) (Y := fun j => I 236 (185 + 6 * j)) (Z := fun j => I 236 (189 + 6 * j)) (a := v0) (b := v1) (Int.toNat e)
    rw [← cc105] at tb
    have r1 : 0 ≤ (I 236 1) ∧ (I 236 1) ≤ 20 := Rg.n1 hR
    have u2 : (J 236 1) = (I 236 1) := hV _ _ (by first | decide | omega)
    have a3 : -2147483648 ≤ (J 236 1) ∧ (J 236 1) < 2147483648 := hA.1 _ _
    have r4 : 0 ≤ (J 236 1) ∧ (J 236 1) ≤ 20 := Rg.n1 hJ
    refine Go_wp (by decide) ckX12_book [26] ?_
    refine ⟨_, rfl, (by decide), ?_⟩
    refine fun w0 hw0 => ?_; obtain rfl : w0 = some 236 := hw0.symm.trans (FS.g hF rfl)
    refine ⟨_, rfl, (by decide), (by decide), (by decide), ?_⟩
    refine ⟨fun (c5 : (((J 236 1) : Int) ≤ e)) => ?_, fun (c5 : (¬ (((J 236 1) : Int) ≤ e))) => ?_⟩
    ·
      refine ⟨fun (c6 : ((0 : Int) ≤ la)) => ?_, fun (c6 : (¬ ((0 : Int) ≤ la))) => ?_⟩
      ·
        exact ⟨rfl, hQ _ _ hJ (fun ka ja hk => (hV ka ja (by omega))) (show (¬ ((0 ≤ v0 ∧ v0 ≤ 3) ∧ 0 ≤ v1 ∧ v1 ≤ 3) → la = -1000001) ∧ (((0 ≤ v0 ∧ v0 ≤ 3) ∧ 0 ≤ v1 ∧ v1 ≤ 3) → (ltF (fun j => I 236 (184 + 6 * j)) (fun j => I 236 (185 + 6 * j)) (fun j => I 236 (189 + 6 * j)) v0 v1 (Int.toNat (I 236 1)) < 0 → la = -1000002) ∧ (¬ ltF (fun j => I 236 (184 + 6 * j)) (fun j => I 236 (185 + 6 * j)) (fun j => I 236 (189 + 6 * j)) v0 v1 (Int.toNat (I 236 1)) < 0 → la = ltF (fun j => I 236 (184 + 6 * j)) (fun j => I 236 (185 + 6 * j)) (fun j => I 236 (189 + 6 * j)) v0 v1 (Int.toNat (I 236 1)))) from by
                              have h := cc105
                              rw [show Int.toNat (I 236 1) = Int.toNat e from by omega, ← h]
                              refine ⟨fun z => ?_, fun z => ⟨fun b => ?_, fun b => ?_⟩⟩
                              all_goals first | rfl | omega | (exfalso; omega))⟩
      ·
        refine ⟨⟨_, rfl, (by decide)⟩, ?_⟩
        refine s_X12_finding hF (v := (-1000002)) (by decide) ?_
        exact ⟨rfl, hQ _ _ (Rg.u hJ (Pr_f rfl)) (fun ka ja hk => ((uI_o (show ¬ (ka = 238 ∧ ja = 2) from by first | (intro e; obtain ⟨rfl, rfl⟩ := e; exact hk (by decide)) | omega))).trans ((hV ka ja (by omega)))) (show (¬ ((0 ≤ v0 ∧ v0 ≤ 3) ∧ 0 ≤ v1 ∧ v1 ≤ 3) → (-1000002) = -1000001) ∧ (((0 ≤ v0 ∧ v0 ≤ 3) ∧ 0 ≤ v1 ∧ v1 ≤ 3) → (ltF (fun j => I 236 (184 + 6 * j)) (fun j => I 236 (185 + 6 * j)) (fun j => I 236 (189 + 6 * j)) v0 v1 (Int.toNat (I 236 1)) < 0 → (-1000002) = -1000002) ∧ (¬ ltF (fun j => I 236 (184 + 6 * j)) (fun j => I 236 (185 + 6 * j)) (fun j => I 236 (189 + 6 * j)) v0 v1 (Int.toNat (I 236 1)) < 0 → (-1000002) = ltF (fun j => I 236 (184 + 6 * j)) (fun j => I 236 (185 + 6 * j)) (fun j => I 236 (189 + 6 * j)) v0 v1 (Int.toNat (I 236 1)))) from by
                              have h := cc105
                              rw [show Int.toNat (I 236 1) = Int.toNat e from by omega, ← h]
                              refine ⟨fun z => ?_, fun z => ⟨fun b => ?_, fun b => ?_⟩⟩
                              all_goals first | rfl | omega | (exfalso; omega))⟩
    ·
      refine ⟨⟨_, rfl, (by decide)⟩, ?_⟩
      refine Call_wp (lv := [some (vr 235), some (vi e), some (vi 0)]) (by decide) ckX12_entry [] rfl rfl ?_
      refine ⟨_, rfl, (by decide), ?_⟩
      refine fun w0 hw0 => ?_; obtain rfl : w0 = some 236 := hw0.symm.trans (FS.g hF rfl)
      have n7 : (wr (6 * e)) = 6 * e := wr_id (show -2147483648 ≤ (6 * e : Int) ∧ (6 * e : Int) < 2147483648 from by omega)
      have n8 : (wr (184 + (wr (6 * e)))) = 184 + (wr (6 * e)) := wr_id (show -2147483648 ≤ (184 + (wr (6 * e)) : Int) ∧ (184 + (wr (6 * e)) : Int) < 2147483648 from by omega)
      have n9 : (wr ((wr (184 + (wr (6 * e)))) + 0)) = (wr (184 + (wr (6 * e)))) + 0 := wr_id (show -2147483648 ≤ ((wr (184 + (wr (6 * e)))) + 0 : Int) ∧ ((wr (184 + (wr (6 * e)))) + 0 : Int) < 2147483648 from by omega)
      refine ⟨_, rfl, (by decide), (show (0 : Int) ≤ (wr ((wr (184 + (wr (6 * e)))) + 0)) from by first | with_reducible assumption | omega | (simp only [wr, wl] at *; omega)), (show (wr ((wr (184 + (wr (6 * e)))) + 0)) < (1340 : Int) from by first | with_reducible assumption | omega | (simp only [wr, wl] at *; omega)), ?_⟩
      have z10 : (I 236 (Int.toNat (wr ((wr (184 + (wr (6 * e)))) + 0)))) = I 236 (184 + 6 * Int.toNat e) := (rfl).trans (congrArg (I 236) (by omega))
      have u11 : (J 236 (Int.toNat (wr ((wr (184 + (wr (6 * e)))) + 0)))) = (I 236 (Int.toNat (wr ((wr (184 + (wr (6 * e)))) + 0)))) := hV _ _ (by first | decide | omega)
      have a12 : -2147483648 ≤ (J 236 (Int.toNat (wr ((wr (184 + (wr (6 * e)))) + 0)))) ∧ (J 236 (Int.toNat (wr ((wr (184 + (wr (6 * e)))) + 0)))) < 2147483648 := hA.1 _ _
      have z13 : (J 236 (Int.toNat (wr ((wr (184 + (wr (6 * e)))) + 0)))) = I 236 (184 + 6 * Int.toNat e) := (hV 236 (Int.toNat (wr ((wr (184 + (wr (6 * e)))) + 0))) (by omega)).trans (congrArg (I 236) (by omega))
      refine ⟨rfl, ?_⟩
      refine ⟨fun (c14 : (¬ ((J 236 (Int.toNat (wr ((wr (184 + (wr (6 * e)))) + 0)))) : Int) = v0)) => ?_, fun (c14 : (((J 236 (Int.toNat (wr ((wr (184 + (wr (6 * e)))) + 0)))) : Int) = v0)) => ?_⟩
      ·
        have n15 : (wr (e + 1)) = e + 1 := wr_id (show -2147483648 ≤ (e + 1 : Int) ∧ (e + 1 : Int) < 2147483648 from by omega)
        exact ih la (wr (e + 1)) J hJ (fun ka ja hk => (hV ka ja (by omega))) (show ((-1) : Int) ≤ la from by first | with_reducible assumption | omega | (simp only [wr, wl] at *; omega)) (show (la : Int) ≤ 19 from by first | with_reducible assumption | omega | (simp only [wr, wl] at *; omega)) (show (0 : Int) ≤ (wr (e + 1)) from by first | with_reducible assumption | omega | (simp only [wr, wl] at *; omega)) (show ((wr (e + 1)) : Int) ≤ 20 from by first | with_reducible assumption | omega | (simp only [wr, wl] at *; omega)) (show (wr (e + 1)) ≤ I 236 1 from by first | with_reducible assumption | omega | (simp only [wr, wl] at *; omega)) (show la = ltF (fun j => I 236 (184 + 6 * j)) (fun j => I 236 (185 + 6 * j)) (fun j => I 236 (189 + 6 * j)) v0 v1 (Int.toNat (wr (e + 1))) from (by
                              have h := cc105
                              rw [show Int.toNat (wr (e + 1)) = Int.toNat e + 1 from by omega]
                              first
                                | (rw [ltF_y (show I 236 (184 + 6 * Int.toNat e) = v0 ∧ I 236 (185 + 6 * Int.toNat e) = v1 ∧ I 236 (189 + 6 * Int.toNat e) < 0 from ⟨by omega, by omega, by omega⟩)]; omega)
                                | (rw [ltF_n (show ¬ (I 236 (184 + 6 * Int.toNat e) = v0 ∧ I 236 (185 + 6 * Int.toNat e) = v1 ∧ I 236 (189 + 6 * Int.toNat e) < 0) from fun q => by omega)]; exact h))) (show (J 236 1) = I 236 1 from by first | omega | (simp only [wr, wl] at *; omega)) (show (20 - (wr (e + 1))).toNat < mz from by omega)
      ·
        refine ⟨⟨_, rfl, (by decide)⟩, ?_⟩
        refine Call_wp (lv := [some (vr 235), some (vi e), some (vi 1)]) (by decide) ckX12_entry [] rfl rfl ?_
        refine ⟨_, rfl, (by decide), ?_⟩
        refine fun w0 hw0 => ?_; obtain rfl : w0 = some 236 := hw0.symm.trans (FS.g hF rfl)
        have n16 : (wr ((wr (184 + (wr (6 * e)))) + 1)) = (wr (184 + (wr (6 * e)))) + 1 := wr_id (show -2147483648 ≤ ((wr (184 + (wr (6 * e)))) + 1 : Int) ∧ ((wr (184 + (wr (6 * e)))) + 1 : Int) < 2147483648 from by omega)
        refine ⟨_, rfl, (by decide), (show (0 : Int) ≤ (wr ((wr (184 + (wr (6 * e)))) + 1)) from by first | with_reducible assumption | omega | (simp only [wr, wl] at *; omega)), (show (wr ((wr (184 + (wr (6 * e)))) + 1)) < (1340 : Int) from by first | with_reducible assumption | omega | (simp only [wr, wl] at *; omega)), ?_⟩
        have z17 : (I 236 (Int.toNat (wr ((wr (184 + (wr (6 * e)))) + 1)))) = I 236 (185 + 6 * Int.toNat e) := (rfl).trans (congrArg (I 236) (by omega))
        have u18 : (J 236 (Int.toNat (wr ((wr (184 + (wr (6 * e)))) + 1)))) = (I 236 (Int.toNat (wr ((wr (184 + (wr (6 * e)))) + 1)))) := hV _ _ (by first | decide | omega)
        have a19 : -2147483648 ≤ (J 236 (Int.toNat (wr ((wr (184 + (wr (6 * e)))) + 1)))) ∧ (J 236 (Int.toNat (wr ((wr (184 + (wr (6 * e)))) + 1)))) < 2147483648 := hA.1 _ _
        have z20 : (J 236 (Int.toNat (wr ((wr (184 + (wr (6 * e)))) + 1)))) = I 236 (185 + 6 * Int.toNat e) := (hV 236 (Int.toNat (wr ((wr (184 + (wr (6 * e)))) + 1))) (by omega)).trans (congrArg (I 236) (by omega))
        refine ⟨rfl, ?_⟩
        refine ⟨fun (c21 : (¬ ((J 236 (Int.toNat (wr ((wr (184 + (wr (6 * e)))) + 1)))) : Int) = v1)) => ?_, fun (c21 : (((J 236 (Int.toNat (wr ((wr (184 + (wr (6 * e)))) + 1)))) : Int) = v1)) => ?_⟩
        ·
          have n22 : (wr (e + 1)) = e + 1 := wr_id (show -2147483648 ≤ (e + 1 : Int) ∧ (e + 1 : Int) < 2147483648 from by omega)
          exact ih la (wr (e + 1)) J hJ (fun ka ja hk => (hV ka ja (by omega))) (show ((-1) : Int) ≤ la from by first | with_reducible assumption | omega | (simp only [wr, wl] at *; omega)) (show (la : Int) ≤ 19 from by first | with_reducible assumption | omega | (simp only [wr, wl] at *; omega)) (show (0 : Int) ≤ (wr (e + 1)) from by first | with_reducible assumption | omega | (simp only [wr, wl] at *; omega)) (show ((wr (e + 1)) : Int) ≤ 20 from by first | with_reducible assumption | omega | (simp only [wr, wl] at *; omega)) (show (wr (e + 1)) ≤ I 236 1 from by first | with_reducible assumption | omega | (simp only [wr, wl] at *; omega)) (show la = ltF (fun j => I 236 (184 + 6 * j)) (fun j => I 236 (185 + 6 * j)) (fun j => I 236 (189 + 6 * j)) v0 v1 (Int.toNat (wr (e + 1))) from (by
                              have h := cc105
                              rw [show Int.toNat (wr (e + 1)) = Int.toNat e + 1 from by omega]
                              first
                                | (rw [ltF_y (show I 236 (184 + 6 * Int.toNat e) = v0 ∧ I 236 (185 + 6 * Int.toNat e) = v1 ∧ I 236 (189 + 6 * Int.toNat e) < 0 from ⟨by omega, by omega, by omega⟩)]; omega)
                                | (rw [ltF_n (show ¬ (I 236 (184 + 6 * Int.toNat e) = v0 ∧ I 236 (185 + 6 * Int.toNat e) = v1 ∧ I 236 (189 + 6 * Int.toNat e) < 0) from fun q => by omega)]; exact h))) (show (J 236 1) = I 236 1 from by first | omega | (simp only [wr, wl] at *; omega)) (show (20 - (wr (e + 1))).toNat < mz from by omega)
        ·
          refine ⟨⟨_, rfl, (by decide)⟩, ?_⟩
          refine Call_wp (lv := [some (vr 235), some (vi e), some (vi 5)]) (by decide) ckX12_entry [] rfl rfl ?_
          refine ⟨_, rfl, (by decide), ?_⟩
          refine fun w0 hw0 => ?_; obtain rfl : w0 = some 236 := hw0.symm.trans (FS.g hF rfl)
          have n23 : (wr ((wr (184 + (wr (6 * e)))) + 5)) = (wr (184 + (wr (6 * e)))) + 5 := wr_id (show -2147483648 ≤ ((wr (184 + (wr (6 * e)))) + 5 : Int) ∧ ((wr (184 + (wr (6 * e)))) + 5 : Int) < 2147483648 from by omega)
          refine ⟨_, rfl, (by decide), (show (0 : Int) ≤ (wr ((wr (184 + (wr (6 * e)))) + 5)) from by first | with_reducible assumption | omega | (simp only [wr, wl] at *; omega)), (show (wr ((wr (184 + (wr (6 * e)))) + 5)) < (1340 : Int) from by first | with_reducible assumption | omega | (simp only [wr, wl] at *; omega)), ?_⟩
          have z24 : (I 236 (Int.toNat (wr ((wr (184 + (wr (6 * e)))) + 5)))) = I 236 (189 + 6 * Int.toNat e) := (rfl).trans (congrArg (I 236) (by omega))
          have u25 : (J 236 (Int.toNat (wr ((wr (184 + (wr (6 * e)))) + 5)))) = (I 236 (Int.toNat (wr ((wr (184 + (wr (6 * e)))) + 5)))) := hV _ _ (by first | decide | omega)
          have a26 : -2147483648 ≤ (J 236 (Int.toNat (wr ((wr (184 + (wr (6 * e)))) + 5)))) ∧ (J 236 (Int.toNat (wr ((wr (184 + (wr (6 * e)))) + 5)))) < 2147483648 := hA.1 _ _
          have z27 : (J 236 (Int.toNat (wr ((wr (184 + (wr (6 * e)))) + 5)))) = I 236 (189 + 6 * Int.toNat e) := (hV 236 (Int.toNat (wr ((wr (184 + (wr (6 * e)))) + 5))) (by omega)).trans (congrArg (I 236) (by omega))
          refine ⟨rfl, ?_⟩
          refine ⟨fun (c28 : ((0 : Int) ≤ (J 236 (Int.toNat (wr ((wr (184 + (wr (6 * e)))) + 5)))))) => ?_, fun (c28 : (¬ ((0 : Int) ≤ (J 236 (Int.toNat (wr ((wr (184 + (wr (6 * e)))) + 5))))))) => ?_⟩
          ·
            have n29 : (wr (e + 1)) = e + 1 := wr_id (show -2147483648 ≤ (e + 1 : Int) ∧ (e + 1 : Int) < 2147483648 from by omega)
            exact ih la (wr (e + 1)) J hJ (fun ka ja hk => (hV ka ja (by omega))) (show ((-1) : Int) ≤ la from by first | with_reducible assumption | omega | (simp only [wr, wl] at *; omega)) (show (la : Int) ≤ 19 from by first | with_reducible assumption | omega | (simp only [wr, wl] at *; omega)) (show (0 : Int) ≤ (wr (e + 1)) from by first | with_reducible assumption | omega | (simp only [wr, wl] at *; omega)) (show ((wr (e + 1)) : Int) ≤ 20 from by first | with_reducible assumption | omega | (simp only [wr, wl] at *; omega)) (show (wr (e + 1)) ≤ I 236 1 from by first | with_reducible assumption | omega | (simp only [wr, wl] at *; omega)) (show la = ltF (fun j => I 236 (184 + 6 * j)) (fun j => I 236 (185 + 6 * j)) (fun j => I 236 (189 + 6 * j)) v0 v1 (Int.toNat (wr (e + 1))) from (by
                              have h := cc105
                              rw [show Int.toNat (wr (e + 1)) = Int.toNat e + 1 from by omega]
                              first
                                | (rw [ltF_y (show I 236 (184 + 6 * Int.toNat e) = v0 ∧ I 236 (185 + 6 * Int.toNat e) = v1 ∧ I 236 (189 + 6 * Int.toNat e) < 0 from ⟨by omega, by omega, by omega⟩)]; omega)
                                | (rw [ltF_n (show ¬ (I 236 (184 + 6 * Int.toNat e) = v0 ∧ I 236 (185 + 6 * Int.toNat e) = v1 ∧ I 236 (189 + 6 * Int.toNat e) < 0) from fun q => by omega)]; exact h))) (show (J 236 1) = I 236 1 from by first | omega | (simp only [wr, wl] at *; omega)) (show (20 - (wr (e + 1))).toNat < mz from by omega)
          ·
            have n30 : (wr (e + 1)) = e + 1 := wr_id (show -2147483648 ≤ (e + 1 : Int) ∧ (e + 1 : Int) < 2147483648 from by omega)
            exact ih e (wr (e + 1)) J hJ (fun ka ja hk => (hV ka ja (by omega))) (show ((-1) : Int) ≤ e from by first | with_reducible assumption | omega | (simp only [wr, wl] at *; omega)) (show (e : Int) ≤ 19 from by first | with_reducible assumption | omega | (simp only [wr, wl] at *; omega)) (show (0 : Int) ≤ (wr (e + 1)) from by first | with_reducible assumption | omega | (simp only [wr, wl] at *; omega)) (show ((wr (e + 1)) : Int) ≤ 20 from by first | with_reducible assumption | omega | (simp only [wr, wl] at *; omega)) (show (wr (e + 1)) ≤ I 236 1 from by first | with_reducible assumption | omega | (simp only [wr, wl] at *; omega)) (show e = ltF (fun j => I 236 (184 + 6 * j)) (fun j => I 236 (185 + 6 * j)) (fun j => I 236 (189 + 6 * j)) v0 v1 (Int.toNat (wr (e + 1))) from (by
                              have h := cc105
                              rw [show Int.toNat (wr (e + 1)) = Int.toNat e + 1 from by omega]
                              first
                                | (rw [ltF_y (show I 236 (184 + 6 * Int.toNat e) = v0 ∧ I 236 (185 + 6 * Int.toNat e) = v1 ∧ I 236 (189 + 6 * Int.toNat e) < 0 from ⟨by omega, by omega, by omega⟩)]; omega)
                                | (rw [ltF_n (show ¬ (I 236 (184 + 6 * Int.toNat e) = v0 ∧ I 236 (185 + 6 * Int.toNat e) = v1 ∧ I 236 (189 + 6 * Int.toNat e) < 0) from fun q => by omega)]; exact h))) (show (J 236 1) = I 236 1 from by first | omega | (simp only [wr, wl] at *; omega)) (show (20 - (wr (e + 1))).toNat < mz from by omega)
theorem r_book11 (hF : FS F) (hR : Rg I) {v0 v1 : Int}  (hQ : ∀ (r : Int) (I' : pI), Rg I' → AR I' → iR r → (∀ k j, ¬ (k = 238) → I' k j = I k j) → ((¬ ((0 ≤ v0 ∧ v0 ≤ 3) ∧ 0 ≤ v1 ∧ v1 ≤ 3) → r = -1000001) ∧ (((0 ≤ v0 ∧ v0 ≤ 3) ∧ 0 ≤ v1 ∧ v1 ≤ 3) → (ltF (fun j => I 236 (184 + 6 * j)) (fun j => I 236 (185 + 6 * j)) (fun j => I 236 (189 + 6 * j)) v0 v1 (Int.toNat (I 236 1)) < 0 → r = -1000002) ∧ (¬ ltF (fun j => I 236 (184 + 6 * j)) (fun j => I 236 (185 + 6 * j)) (fun j => I 236 (189 + 6 * j)) v0 v1 (Int.toNat (I 236 1)) < 0 → r = ltF (fun j => I 236 (184 + 6 * j)) (fun j => I 236 (185 + 6 * j)) (fun j => I 236 (189 + 6 * j)) v0 v1 (Int.toNat (I 236 1))))) → Q (some (vi r)) F I') : CallN G (d + 2) kX12_book [vr 235, vi v0, vi v1] NP F I Q := by
  refine CallN_in (fun hok hA => CallN_out ?_)
  have iv0 : -2147483648 ≤ v0 ∧ v0 < 2147483648 := hok (vi v0) (by simp)
  have iv1 : -2147483648 ≤ v1 ∧ v1 < 2147483648 := hok (vi v1) (by simp)
  have hc := Rg.n1 hR
  refine Call_wp (lv := [some (vr 235), some (vi v0), some (vi v1), none, none]) (by decide) ckX12_book [26] rfl rfl ?_
  refine s_X12_isLot (fun (w1 : ((0 : Int) ≤ v0 ∧ (v0 : Int) ≤ 3)) => ?_) (fun (w1 : ¬ ((0 : Int) ≤ v0 ∧ (v0 : Int) ≤ 3)) => ?_)
  ·
    refine ⟨fun c => absurd c (show (¬ ((1 : Int) = 0)) from by decide), fun _ => ?_⟩
    refine s_X12_isLaw (fun (w2 : ((0 : Int) ≤ v1 ∧ (v1 : Int) ≤ 3)) => ?_) (fun (w2 : ¬ ((0 : Int) ≤ v1 ∧ (v1 : Int) ≤ 3)) => ?_)
    ·
      refine ⟨fun _ => ?_, fun c => absurd c (show (¬ (1 : Int) = 0) from by decide)⟩
      have r3 : 0 ≤ (I 236 1) ∧ (I 236 1) ≤ 20 := Rg.n1 hR
      refine r_book11_l hF hR (by omega) (by omega) (fun r I' g1 g2 g3 hv hA' => hQ _ _ g1 hA' (hv _ rfl) g2 g3) _ (-1) 0 I hR (fun _ _ _ => rfl) (show ((-1) : Int) ≤ ((-1) : Int) from Int.le_refl _) (show (((-1) : Int) : Int) ≤ 19 from by first | with_reducible assumption | omega | (simp only [wr, wl] at *; omega)) (show (0 : Int) ≤ (0 : Int) from Int.le_refl _) (show ((0 : Int) : Int) ≤ 20 from by first | with_reducible assumption | omega | (simp only [wr, wl] at *; omega)) (show (0 : Int) ≤ I 236 1 from by first | with_reducible assumption | omega | (simp only [wr, wl] at *; omega)) (show ((-1) : Int) = ltF (fun j => I 236 (184 + 6 * j)) (fun j => I 236 (185 + 6 * j)) (fun j => I 236 (189 + 6 * j)) v0 v1 (Int.toNat (0 : Int)) from rfl) (show (I 236 1) = I 236 1 from by first | omega | (simp only [wr, wl] at *; omega)) (Nat.lt_succ_self _)
    ·
      refine ⟨fun c => absurd (show ((0 : Int) = 0) from by decide) c, fun _ => ?_⟩
      refine ⟨⟨_, rfl, (by decide)⟩, ?_⟩
      refine s_X12_finding hF (v := (-1000001)) (by decide) ?_
      exact ⟨rfl, fun hv hA' => hQ _ _ (Rg.u hR (Pr_f rfl)) hA' (hv _ rfl) (fun ka ja hk => (uI_o (show ¬ (ka = 238 ∧ ja = 1) from by first | (intro e; obtain ⟨rfl, rfl⟩ := e; exact hk (by decide)) | omega))) (show (¬ ((0 ≤ v0 ∧ v0 ≤ 3) ∧ 0 ≤ v1 ∧ v1 ≤ 3) → (-1000001) = -1000001) ∧ (((0 ≤ v0 ∧ v0 ≤ 3) ∧ 0 ≤ v1 ∧ v1 ≤ 3) → (ltF (fun j => I 236 (184 + 6 * j)) (fun j => I 236 (185 + 6 * j)) (fun j => I 236 (189 + 6 * j)) v0 v1 (Int.toNat (I 236 1)) < 0 → (-1000001) = -1000002) ∧ (¬ ltF (fun j => I 236 (184 + 6 * j)) (fun j => I 236 (185 + 6 * j)) (fun j => I 236 (189 + 6 * j)) v0 v1 (Int.toNat (I 236 1)) < 0 → (-1000001) = ltF (fun j => I 236 (184 + 6 * j)) (fun j => I 236 (185 + 6 * j)) (fun j => I 236 (189 + 6 * j)) v0 v1 (Int.toNat (I 236 1)))) from by
                              refine ⟨fun z => ?_, fun z => ?_⟩
                              · first | rfl | omega
                              · exfalso; omega)⟩
  ·
    refine ⟨fun _ => ?_, fun c => absurd (show ((0 : Int) = 0) from by decide) c⟩
    refine ⟨⟨_, rfl, (by decide)⟩, ?_⟩
    refine s_X12_finding hF (v := (-1000001)) (by decide) ?_
    exact ⟨rfl, fun hv hA' => hQ _ _ (Rg.u hR (Pr_f rfl)) hA' (hv _ rfl) (fun ka ja hk => (uI_o (show ¬ (ka = 238 ∧ ja = 1) from by first | (intro e; obtain ⟨rfl, rfl⟩ := e; exact hk (by decide)) | omega))) (show (¬ ((0 ≤ v0 ∧ v0 ≤ 3) ∧ 0 ≤ v1 ∧ v1 ≤ 3) → (-1000001) = -1000001) ∧ (((0 ≤ v0 ∧ v0 ≤ 3) ∧ 0 ≤ v1 ∧ v1 ≤ 3) → (ltF (fun j => I 236 (184 + 6 * j)) (fun j => I 236 (185 + 6 * j)) (fun j => I 236 (189 + 6 * j)) v0 v1 (Int.toNat (I 236 1)) < 0 → (-1000001) = -1000002) ∧ (¬ ltF (fun j => I 236 (184 + 6 * j)) (fun j => I 236 (185 + 6 * j)) (fun j => I 236 (189 + 6 * j)) v0 v1 (Int.toNat (I 236 1)) < 0 → (-1000001) = ltF (fun j => I 236 (184 + 6 * j)) (fun j => I 236 (185 + 6 * j)) (fun j => I 236 (189 + 6 * j)) v0 v1 (Int.toNat (I 236 1)))) from by
                              refine ⟨fun z => ?_, fun z => ?_⟩
                              · first | rfl | omega
                              · exfalso; omega)⟩
end BO11
def BAC (v0 v1 r : Int) (I J : pI) : Prop := ((¬ ((0 ≤ v0 ∧ v0 < I 12 6) ∧ 0 ≤ v1 ∧ v1 < I 12 6) → r = -1000001) ∧ (((0 ≤ v0 ∧ v0 < I 12 6) ∧ 0 ≤ v1 ∧ v1 < I 12 6) → (¬ (v0 < v1 ∧ I 13 (Int.toNat v0) = I 13 (Int.toNat v1) ∧ I 14 (Int.toNat v0) = I 14 (Int.toNat v1) ∧ I 18 (Int.toNat v0) < 0) → r = -1000003) ∧ ((v0 < v1 ∧ I 13 (Int.toNat v0) = I 13 (Int.toNat v1) ∧ I 14 (Int.toNat v0) = I 14 (Int.toNat v1) ∧ I 18 (Int.toNat v0) < 0) → r = 1))) ∧ (r < 0 → ∀ j : Nat, J 18 j = I 18 j) ∧ (0 ≤ r → ∀ j : Nat, ((j : Int) = v0 → J 18 j = v1) ∧ (¬ (j : Int) = v0 → J 18 j = I 18 j))
def BAR (v0 v1 r : Int) (K L : pI) : Prop := ((¬ ((0 ≤ v0 ∧ v0 < K 236 1) ∧ 0 ≤ v1 ∧ v1 < K 236 1) → r = -1000001) ∧ (((0 ≤ v0 ∧ v0 < K 236 1) ∧ 0 ≤ v1 ∧ v1 < K 236 1) → (¬ (v0 < v1 ∧ K 236 (184 + 6 * (Int.toNat v0)) = K 236 (184 + 6 * (Int.toNat v1)) ∧ K 236 (185 + 6 * (Int.toNat v0)) = K 236 (185 + 6 * (Int.toNat v1)) ∧ K 236 (189 + 6 * (Int.toNat v0)) < 0) → r = -1000003) ∧ ((v0 < v1 ∧ K 236 (184 + 6 * (Int.toNat v0)) = K 236 (184 + 6 * (Int.toNat v1)) ∧ K 236 (185 + 6 * (Int.toNat v0)) = K 236 (185 + 6 * (Int.toNat v1)) ∧ K 236 (189 + 6 * (Int.toNat v0)) < 0) → r = 1))) ∧ (r < 0 → ∀ j : Nat, j < 20 → L 236 (189 + 6 * j) = K 236 (189 + 6 * j)) ∧ (0 ≤ r → ∀ j : Nat, j < 20 → ((j : Int) = v0 → L 236 (189 + 6 * j) = v1) ∧ (¬ (j : Int) = v0 → L 236 (189 + 6 * j) = K 236 (189 + 6 * j)))
theorem ba_e {I J K L : pI} {v0 v1 r r' : Int} (e : I 12 6 = K 236 1) (hs : 0 ≤ I 12 6 ∧ I 12 6 ≤ 20) (h13 : ∀ j : Nat, j < 20 → I 13 j = K 236 (184 + 6 * j)) (h14 : ∀ j : Nat, j < 20 → I 14 j = K 236 (185 + 6 * j)) (h18 : ∀ j : Nat, j < 20 → I 18 j = K 236 (189 + 6 * j)) (c : BAC v0 v1 r I J) (d : BAR v0 v1 r' K L) : r = r' := by
  obtain ⟨⟨c1, c2⟩, _⟩ := c
  obtain ⟨⟨d1, d2⟩, _⟩ := d
  rw [← e] at d1 d2
  by_cases v : (0 ≤ v0 ∧ v0 < I 12 6) ∧ 0 ≤ v1 ∧ v1 < I 12 6
  · have c3 := c2 v
    have d3 := d2 v
    have a13 := h13 (Int.toNat v0) (by omega)
    have a14 := h14 (Int.toNat v0) (by omega)
    have a18 := h18 (Int.toNat v0) (by omega)
    have b13 := h13 (Int.toNat v1) (by omega)
    have b14 := h14 (Int.toNat v1) (by omega)
    have b18 := h18 (Int.toNat v1) (by omega)
    rw [← a13, ← b13, ← a14, ← b14, ← a18] at d3
    by_cases z : v0 < v1 ∧ I 13 (Int.toNat v0) = I 13 (Int.toNat v1) ∧ I 14 (Int.toNat v0) = I 14 (Int.toNat v1) ∧ I 18 (Int.toNat v0) < 0
    · exact (c3.2 z).trans (d3.2 z).symm
    · exact (c3.1 z).trans (d3.1 z).symm
  · exact (c1 v).trans (d1 v).symm
theorem ba_18 {I J K L : pI} {v0 v1 r r' : Int} (e : I 12 6 = K 236 1) (hs : 0 ≤ I 12 6 ∧ I 12 6 ≤ 20) (h13 : ∀ j : Nat, j < 20 → I 13 j = K 236 (184 + 6 * j)) (h14 : ∀ j : Nat, j < 20 → I 14 j = K 236 (185 + 6 * j)) (h18 : ∀ j : Nat, j < 20 → I 18 j = K 236 (189 + 6 * j)) (c : BAC v0 v1 r I J) (d : BAR v0 v1 r' K L) : ∀ j : Nat, j < 20 → J 18 j = L 236 (189 + 6 * j) := fun j hj => by
  have q := ba_e e hs h13 h14 h18 c d
  subst q
  obtain ⟨_, c1, c2⟩ := c
  obtain ⟨_, d1, d2⟩ := d
  by_cases v : r < 0
  · exact (c1 v j).trans ((h18 j hj).trans (d1 v j hj).symm)
  · by_cases t : (j : Int) = v0
    · exact ((c2 (by omega) j).1 t).trans ((d2 (by omega) j hj).1 t).symm
    · exact ((c2 (by omega) j).2 t).trans ((h18 j hj).trans ((d2 (by omega) j hj).2 t).symm)
def LTC (v0 v1 r : Int) (I : pI) : Prop := (¬ ((0 ≤ v0 ∧ v0 ≤ 3) ∧ 0 ≤ v1 ∧ v1 ≤ 3) → r = -1000001) ∧ (((0 ≤ v0 ∧ v0 ≤ 3) ∧ 0 ≤ v1 ∧ v1 ≤ 3) → (ltF (fun j => I 13 j) (fun j => I 14 j) (fun j => I 18 j) v0 v1 (Int.toNat (I 12 6)) < 0 → r = -1000002) ∧ (¬ ltF (fun j => I 13 j) (fun j => I 14 j) (fun j => I 18 j) v0 v1 (Int.toNat (I 12 6)) < 0 → r = ltF (fun j => I 13 j) (fun j => I 14 j) (fun j => I 18 j) v0 v1 (Int.toNat (I 12 6))))
def LTR (v0 v1 r : Int) (K : pI) : Prop := (¬ ((0 ≤ v0 ∧ v0 ≤ 3) ∧ 0 ≤ v1 ∧ v1 ≤ 3) → r = -1000001) ∧ (((0 ≤ v0 ∧ v0 ≤ 3) ∧ 0 ≤ v1 ∧ v1 ≤ 3) → (ltF (fun j => K 236 (184 + 6 * j)) (fun j => K 236 (185 + 6 * j)) (fun j => K 236 (189 + 6 * j)) v0 v1 (Int.toNat (K 236 1)) < 0 → r = -1000002) ∧ (¬ ltF (fun j => K 236 (184 + 6 * j)) (fun j => K 236 (185 + 6 * j)) (fun j => K 236 (189 + 6 * j)) v0 v1 (Int.toNat (K 236 1)) < 0 → r = ltF (fun j => K 236 (184 + 6 * j)) (fun j => K 236 (185 + 6 * j)) (fun j => K 236 (189 + 6 * j)) v0 v1 (Int.toNat (K 236 1))))
theorem lt_e {I K : pI} {v0 v1 r r' : Int} (e : I 12 6 = K 236 1) (hs : 0 ≤ I 12 6 ∧ I 12 6 ≤ 20) (h13 : ∀ j : Nat, j < 20 → I 13 j = K 236 (184 + 6 * j)) (h14 : ∀ j : Nat, j < 20 → I 14 j = K 236 (185 + 6 * j)) (h18 : ∀ j : Nat, j < 20 → I 18 j = K 236 (189 + 6 * j)) (c : LTC v0 v1 r I) (d : LTR v0 v1 r' K) : r = r' := by
  unfold LTC at c
  unfold LTR at d
  rw [← e] at d
  have q := ltF_e (X := fun j => I 13 j) (Y := fun j => I 14 j) (Z := fun j => I 18 j) (X' := fun j => K 236 (184 + 6 * j)) (Y' := fun j => K 236 (185 + 6 * j)) (Z' := fun j => K 236 (189 + 6 * j)) (a := v0) (b := v1) (Int.toNat (I 12 6)) (fun k hk => ⟨h13 k (by omega), h14 k (by omega), h18 k (by omega)⟩)
  rw [← q] at d
  by_cases v : (0 ≤ v0 ∧ v0 ≤ 3) ∧ 0 ≤ v1 ∧ v1 ≤ 3
  · have c1 := c.2 v
    have d1 := d.2 v
    by_cases z : ltF (fun j => I 13 j) (fun j => I 14 j) (fun j => I 18 j) v0 v1 (Int.toNat (I 12 6)) < 0
    · exact (c1.1 z).trans (d1.1 z).symm
    · exact (c1.2 z).trans (d1.2 z).symm
  · exact (c.1 v).trans (d.1 v).symm
