/-! entryIs, back, book. Own work (scripts laid by wip/pm/gen34.py). -/
section BO11
variable {G : pG} {d : Nat} {F : pF} {I : pI} {Q : Option pV → pF → pI → Prop}
theorem c_back11 (hF : FS F) (hR : Rg I) {v0 v1 : Int} (he : 0 ≤ I 12 6 ∧ I 12 6 ≤ 20) (hQ : ∀ (r : Int) (I' : pI), Rg I' → AR I' → iR r → (∀ k j, ¬ (k = 203 ∨ k = 18) → I' k j = I k j) → (((¬ ((0 ≤ v0 ∧ v0 < I 12 6) ∧ 0 ≤ v1 ∧ v1 < I 12 6) → r = -1000001) ∧ (((0 ≤ v0 ∧ v0 < I 12 6) ∧ 0 ≤ v1 ∧ v1 < I 12 6) → (¬ (v0 < v1 ∧ I 13 (Int.toNat v0) = I 13 (Int.toNat v1) ∧ I 14 (Int.toNat v0) = I 14 (Int.toNat v1) ∧ I 18 (Int.toNat v0) < 0) → r = -1000003) ∧ ((v0 < v1 ∧ I 13 (Int.toNat v0) = I 13 (Int.toNat v1) ∧ I 14 (Int.toNat v0) = I 14 (Int.toNat v1) ∧ I 18 (Int.toNat v0) < 0) → r = 1))) ∧ (r < 0 → ∀ j : Nat, I' 18 j = I 18 j) ∧ (0 ≤ r → ∀ j : Nat, ((j : Int) = v0 → I' 18 j = v1) ∧ (¬ (j : Int) = v0 → I' 18 j = I 18 j))) → Q (some (vi r)) F I') : CallN G (d + 2) kX11_back [vr 0, vi v0, vi v1] NP F I Q := by
  refine CallN_in (fun hok hA => CallN_out ?_)
  have iv0 : -2147483648 ≤ v0 ∧ v0 < 2147483648 := hok (vi v0) (by simp)
  have iv1 : -2147483648 ≤ v1 ∧ v1 < 2147483648 := hok (vi v1) (by simp)
  refine Call_wp (lv := [some (vr 0), some (vi v0), some (vi v1)]) (by decide) ckX11_back [] rfl rfl ?_
  refine ⟨_, rfl, (by decide), ?_⟩
  refine fun w0 hw0 => ?_; obtain rfl : w0 = some 1 := hw0.symm.trans (FS.g hF rfl)
  refine ⟨_, rfl, (by decide), ?_⟩
  refine fun w0 hw0 => ?_; obtain rfl : w0 = some 12 := hw0.symm.trans (FS.g hF rfl)
  refine ⟨⟨_, rfl, (by decide)⟩, ?_⟩
  refine Call_wp (lv := [some (vr 12), some (vi v0)]) (by decide) ckX0_has [] rfl rfl ?_
  refine ⟨fun (c1 : ((v0 : Int) < 0)) => ?_, fun (c1 : (¬ ((v0 : Int) < 0))) => ?_⟩
  ·
    refine ⟨rfl, (by decide), ?_⟩
    refine ⟨fun _ => ?_, fun c => absurd (show ((0 : Int) = 0) from by decide) c⟩
    refine ⟨⟨_, rfl, (by decide)⟩, ?_⟩
    refine s_X11_refuse hF (e := 1) (by decide) ?_
    exact ⟨rfl, fun hv hA' => hQ _ _ (Rg.u hR (Pr_f rfl)) hA' (hv _ rfl) (fun ka ja hk => (uI_o (show ¬ (ka = 203 ∧ ja = 1) from by first | (intro e; obtain ⟨rfl, rfl⟩ := e; exact hk (by decide)) | omega))) (show ((¬ ((0 ≤ v0 ∧ v0 < I 12 6) ∧ 0 ≤ v1 ∧ v1 < I 12 6) → (-1000001) = -1000001) ∧ (((0 ≤ v0 ∧ v0 < I 12 6) ∧ 0 ≤ v1 ∧ v1 < I 12 6) → (¬ (v0 < v1 ∧ I 13 (Int.toNat v0) = I 13 (Int.toNat v1) ∧ I 14 (Int.toNat v0) = I 14 (Int.toNat v1) ∧ I 18 (Int.toNat v0) < 0) → (-1000001) = -1000003) ∧ ((v0 < v1 ∧ I 13 (Int.toNat v0) = I 13 (Int.toNat v1) ∧ I 14 (Int.toNat v0) = I 14 (Int.toNat v1) ∧ I 18 (Int.toNat v0) < 0) → (-1000001) = 1))) ∧ ((-1000001) < 0 → ∀ j : Nat, (uI I 203 1 (wr ((I 203 1) + 1))) 18 j = I 18 j) ∧ (0 ≤ (-1000001) → ∀ j : Nat, ((j : Int) = v0 → (uI I 203 1 (wr ((I 203 1) + 1))) 18 j = v1) ∧ (¬ (j : Int) = v0 → (uI I 203 1 (wr ((I 203 1) + 1))) 18 j = I 18 j)) from by
                              refine ⟨⟨fun z => ?_, fun z => ⟨fun b => ?_, fun b => ?_⟩⟩, ?_, ?_⟩
                              any_goals first | rfl | omega | (exfalso; omega)
                              all_goals exact fun _ j => uI_o (show ¬ (18 = 203 ∧ j = 1) from fun e => absurd e.1 (Nat.ne_of_beq_eq_false rfl)))⟩
  ·
    refine ⟨_, rfl, (by decide), ?_⟩
    have a2 : -2147483648 ≤ (I 12 6) ∧ (I 12 6) < 2147483648 := hA.1 _ _
    refine ⟨fun (c3 : (((I 12 6) : Int) ≤ v0)) => ?_, fun (c3 : (¬ (((I 12 6) : Int) ≤ v0))) => ?_⟩
    ·
      refine ⟨rfl, (by decide), ?_⟩
      refine ⟨fun _ => ?_, fun c => absurd (show ((0 : Int) = 0) from by decide) c⟩
      refine ⟨⟨_, rfl, (by decide)⟩, ?_⟩
      refine s_X11_refuse hF (e := 1) (by decide) ?_
      exact ⟨rfl, fun hv hA' => hQ _ _ (Rg.u hR (Pr_f rfl)) hA' (hv _ rfl) (fun ka ja hk => (uI_o (show ¬ (ka = 203 ∧ ja = 1) from by first | (intro e; obtain ⟨rfl, rfl⟩ := e; exact hk (by decide)) | omega))) (show ((¬ ((0 ≤ v0 ∧ v0 < I 12 6) ∧ 0 ≤ v1 ∧ v1 < I 12 6) → (-1000001) = -1000001) ∧ (((0 ≤ v0 ∧ v0 < I 12 6) ∧ 0 ≤ v1 ∧ v1 < I 12 6) → (¬ (v0 < v1 ∧ I 13 (Int.toNat v0) = I 13 (Int.toNat v1) ∧ I 14 (Int.toNat v0) = I 14 (Int.toNat v1) ∧ I 18 (Int.toNat v0) < 0) → (-1000001) = -1000003) ∧ ((v0 < v1 ∧ I 13 (Int.toNat v0) = I 13 (Int.toNat v1) ∧ I 14 (Int.toNat v0) = I 14 (Int.toNat v1) ∧ I 18 (Int.toNat v0) < 0) → (-1000001) = 1))) ∧ ((-1000001) < 0 → ∀ j : Nat, (uI I 203 1 (wr ((I 203 1) + 1))) 18 j = I 18 j) ∧ (0 ≤ (-1000001) → ∀ j : Nat, ((j : Int) = v0 → (uI I 203 1 (wr ((I 203 1) + 1))) 18 j = v1) ∧ (¬ (j : Int) = v0 → (uI I 203 1 (wr ((I 203 1) + 1))) 18 j = I 18 j)) from by
                              refine ⟨⟨fun z => ?_, fun z => ⟨fun b => ?_, fun b => ?_⟩⟩, ?_, ?_⟩
                              any_goals first | rfl | omega | (exfalso; omega)
                              all_goals exact fun _ j => uI_o (show ¬ (18 = 203 ∧ j = 1) from fun e => absurd e.1 (Nat.ne_of_beq_eq_false rfl)))⟩
    ·
      refine ⟨fun (c4 : ((20 : Int) ≤ v0)) => ?_, fun (c4 : (¬ ((20 : Int) ≤ v0))) => ?_⟩
      ·
        refine ⟨rfl, (by decide), ?_⟩
        refine ⟨fun _ => ?_, fun c => absurd (show ((0 : Int) = 0) from by decide) c⟩
        refine ⟨⟨_, rfl, (by decide)⟩, ?_⟩
        refine s_X11_refuse hF (e := 1) (by decide) ?_
        exact ⟨rfl, fun hv hA' => hQ _ _ (Rg.u hR (Pr_f rfl)) hA' (hv _ rfl) (fun ka ja hk => (uI_o (show ¬ (ka = 203 ∧ ja = 1) from by first | (intro e; obtain ⟨rfl, rfl⟩ := e; exact hk (by decide)) | omega))) (show ((¬ ((0 ≤ v0 ∧ v0 < I 12 6) ∧ 0 ≤ v1 ∧ v1 < I 12 6) → (-1000001) = -1000001) ∧ (((0 ≤ v0 ∧ v0 < I 12 6) ∧ 0 ≤ v1 ∧ v1 < I 12 6) → (¬ (v0 < v1 ∧ I 13 (Int.toNat v0) = I 13 (Int.toNat v1) ∧ I 14 (Int.toNat v0) = I 14 (Int.toNat v1) ∧ I 18 (Int.toNat v0) < 0) → (-1000001) = -1000003) ∧ ((v0 < v1 ∧ I 13 (Int.toNat v0) = I 13 (Int.toNat v1) ∧ I 14 (Int.toNat v0) = I 14 (Int.toNat v1) ∧ I 18 (Int.toNat v0) < 0) → (-1000001) = 1))) ∧ ((-1000001) < 0 → ∀ j : Nat, (uI I 203 1 (wr ((I 203 1) + 1))) 18 j = I 18 j) ∧ (0 ≤ (-1000001) → ∀ j : Nat, ((j : Int) = v0 → (uI I 203 1 (wr ((I 203 1) + 1))) 18 j = v1) ∧ (¬ (j : Int) = v0 → (uI I 203 1 (wr ((I 203 1) + 1))) 18 j = I 18 j)) from by
                              refine ⟨⟨fun z => ?_, fun z => ⟨fun b => ?_, fun b => ?_⟩⟩, ?_, ?_⟩
                              any_goals first | rfl | omega | (exfalso; omega)
                              all_goals exact fun _ j => uI_o (show ¬ (18 = 203 ∧ j = 1) from fun e => absurd e.1 (Nat.ne_of_beq_eq_false rfl)))⟩
      ·
        refine ⟨rfl, (by decide), ?_⟩
        refine ⟨fun c => absurd c (show (¬ ((1 : Int) = 0)) from by decide), fun _ => ?_⟩
        refine ⟨_, rfl, (by decide), ?_⟩
        refine fun w0 hw0 => ?_; obtain rfl : w0 = some 1 := hw0.symm.trans (FS.g hF rfl)
        refine ⟨_, rfl, (by decide), ?_⟩
        refine fun w0 hw0 => ?_; obtain rfl : w0 = some 12 := hw0.symm.trans (FS.g hF rfl)
        refine ⟨⟨_, rfl, (by decide)⟩, ?_⟩
        refine Call_wp (lv := [some (vr 12), some (vi v1)]) (by decide) ckX0_has [] rfl rfl ?_
        refine ⟨fun (c5 : ((v1 : Int) < 0)) => ?_, fun (c5 : (¬ ((v1 : Int) < 0))) => ?_⟩
        ·
          refine ⟨rfl, (by decide), ?_⟩
          refine ⟨fun c => absurd (show ((0 : Int) = 0) from by decide) c, fun _ => ?_⟩
          refine ⟨⟨_, rfl, (by decide)⟩, ?_⟩
          refine s_X11_refuse hF (e := 1) (by decide) ?_
          exact ⟨rfl, fun hv hA' => hQ _ _ (Rg.u hR (Pr_f rfl)) hA' (hv _ rfl) (fun ka ja hk => (uI_o (show ¬ (ka = 203 ∧ ja = 1) from by first | (intro e; obtain ⟨rfl, rfl⟩ := e; exact hk (by decide)) | omega))) (show ((¬ ((0 ≤ v0 ∧ v0 < I 12 6) ∧ 0 ≤ v1 ∧ v1 < I 12 6) → (-1000001) = -1000001) ∧ (((0 ≤ v0 ∧ v0 < I 12 6) ∧ 0 ≤ v1 ∧ v1 < I 12 6) → (¬ (v0 < v1 ∧ I 13 (Int.toNat v0) = I 13 (Int.toNat v1) ∧ I 14 (Int.toNat v0) = I 14 (Int.toNat v1) ∧ I 18 (Int.toNat v0) < 0) → (-1000001) = -1000003) ∧ ((v0 < v1 ∧ I 13 (Int.toNat v0) = I 13 (Int.toNat v1) ∧ I 14 (Int.toNat v0) = I 14 (Int.toNat v1) ∧ I 18 (Int.toNat v0) < 0) → (-1000001) = 1))) ∧ ((-1000001) < 0 → ∀ j : Nat, (uI I 203 1 (wr ((I 203 1) + 1))) 18 j = I 18 j) ∧ (0 ≤ (-1000001) → ∀ j : Nat, ((j : Int) = v0 → (uI I 203 1 (wr ((I 203 1) + 1))) 18 j = v1) ∧ (¬ (j : Int) = v0 → (uI I 203 1 (wr ((I 203 1) + 1))) 18 j = I 18 j)) from by
                              refine ⟨⟨fun z => ?_, fun z => ⟨fun b => ?_, fun b => ?_⟩⟩, ?_, ?_⟩
                              any_goals first | rfl | omega | (exfalso; omega)
                              all_goals exact fun _ j => uI_o (show ¬ (18 = 203 ∧ j = 1) from fun e => absurd e.1 (Nat.ne_of_beq_eq_false rfl)))⟩
        ·
          refine ⟨_, rfl, (by decide), ?_⟩
          refine ⟨fun (c6 : (((I 12 6) : Int) ≤ v1)) => ?_, fun (c6 : (¬ (((I 12 6) : Int) ≤ v1))) => ?_⟩
          ·
            refine ⟨rfl, (by decide), ?_⟩
            refine ⟨fun c => absurd (show ((0 : Int) = 0) from by decide) c, fun _ => ?_⟩
            refine ⟨⟨_, rfl, (by decide)⟩, ?_⟩
            refine s_X11_refuse hF (e := 1) (by decide) ?_
            exact ⟨rfl, fun hv hA' => hQ _ _ (Rg.u hR (Pr_f rfl)) hA' (hv _ rfl) (fun ka ja hk => (uI_o (show ¬ (ka = 203 ∧ ja = 1) from by first | (intro e; obtain ⟨rfl, rfl⟩ := e; exact hk (by decide)) | omega))) (show ((¬ ((0 ≤ v0 ∧ v0 < I 12 6) ∧ 0 ≤ v1 ∧ v1 < I 12 6) → (-1000001) = -1000001) ∧ (((0 ≤ v0 ∧ v0 < I 12 6) ∧ 0 ≤ v1 ∧ v1 < I 12 6) → (¬ (v0 < v1 ∧ I 13 (Int.toNat v0) = I 13 (Int.toNat v1) ∧ I 14 (Int.toNat v0) = I 14 (Int.toNat v1) ∧ I 18 (Int.toNat v0) < 0) → (-1000001) = -1000003) ∧ ((v0 < v1 ∧ I 13 (Int.toNat v0) = I 13 (Int.toNat v1) ∧ I 14 (Int.toNat v0) = I 14 (Int.toNat v1) ∧ I 18 (Int.toNat v0) < 0) → (-1000001) = 1))) ∧ ((-1000001) < 0 → ∀ j : Nat, (uI I 203 1 (wr ((I 203 1) + 1))) 18 j = I 18 j) ∧ (0 ≤ (-1000001) → ∀ j : Nat, ((j : Int) = v0 → (uI I 203 1 (wr ((I 203 1) + 1))) 18 j = v1) ∧ (¬ (j : Int) = v0 → (uI I 203 1 (wr ((I 203 1) + 1))) 18 j = I 18 j)) from by
                              refine ⟨⟨fun z => ?_, fun z => ⟨fun b => ?_, fun b => ?_⟩⟩, ?_, ?_⟩
                              any_goals first | rfl | omega | (exfalso; omega)
                              all_goals exact fun _ j => uI_o (show ¬ (18 = 203 ∧ j = 1) from fun e => absurd e.1 (Nat.ne_of_beq_eq_false rfl)))⟩
          ·
            refine ⟨fun (c7 : ((20 : Int) ≤ v1)) => ?_, fun (c7 : (¬ ((20 : Int) ≤ v1))) => ?_⟩
            ·
              refine ⟨rfl, (by decide), ?_⟩
              refine ⟨fun c => absurd (show ((0 : Int) = 0) from by decide) c, fun _ => ?_⟩
              refine ⟨⟨_, rfl, (by decide)⟩, ?_⟩
              refine s_X11_refuse hF (e := 1) (by decide) ?_
              exact ⟨rfl, fun hv hA' => hQ _ _ (Rg.u hR (Pr_f rfl)) hA' (hv _ rfl) (fun ka ja hk => (uI_o (show ¬ (ka = 203 ∧ ja = 1) from by first | (intro e; obtain ⟨rfl, rfl⟩ := e; exact hk (by decide)) | omega))) (show ((¬ ((0 ≤ v0 ∧ v0 < I 12 6) ∧ 0 ≤ v1 ∧ v1 < I 12 6) → (-1000001) = -1000001) ∧ (((0 ≤ v0 ∧ v0 < I 12 6) ∧ 0 ≤ v1 ∧ v1 < I 12 6) → (¬ (v0 < v1 ∧ I 13 (Int.toNat v0) = I 13 (Int.toNat v1) ∧ I 14 (Int.toNat v0) = I 14 (Int.toNat v1) ∧ I 18 (Int.toNat v0) < 0) → (-1000001) = -1000003) ∧ ((v0 < v1 ∧ I 13 (Int.toNat v0) = I 13 (Int.toNat v1) ∧ I 14 (Int.toNat v0) = I 14 (Int.toNat v1) ∧ I 18 (Int.toNat v0) < 0) → (-1000001) = 1))) ∧ ((-1000001) < 0 → ∀ j : Nat, (uI I 203 1 (wr ((I 203 1) + 1))) 18 j = I 18 j) ∧ (0 ≤ (-1000001) → ∀ j : Nat, ((j : Int) = v0 → (uI I 203 1 (wr ((I 203 1) + 1))) 18 j = v1) ∧ (¬ (j : Int) = v0 → (uI I 203 1 (wr ((I 203 1) + 1))) 18 j = I 18 j)) from by
                              refine ⟨⟨fun z => ?_, fun z => ⟨fun b => ?_, fun b => ?_⟩⟩, ?_, ?_⟩
                              any_goals first | rfl | omega | (exfalso; omega)
                              all_goals exact fun _ j => uI_o (show ¬ (18 = 203 ∧ j = 1) from fun e => absurd e.1 (Nat.ne_of_beq_eq_false rfl)))⟩
            ·
              refine ⟨rfl, (by decide), ?_⟩
              refine ⟨fun _ => ?_, fun c => absurd c (show (¬ (1 : Int) = 0) from by decide)⟩
              refine ⟨_, rfl, (by decide), ?_⟩
              refine fun w0 hw0 => ?_; obtain rfl : w0 = some 1 := hw0.symm.trans (FS.g hF rfl)
              refine ⟨_, rfl, (by decide), ?_⟩
              refine fun w0 hw0 => ?_; obtain rfl : w0 = some 12 := hw0.symm.trans (FS.g hF rfl)
              refine ⟨⟨_, rfl, (by decide)⟩, ?_⟩
              refine Call_wp (lv := [some (vr 12), some (vi v0), some (vi v1)]) (by decide) ckX0_canTakeBack [] rfl rfl ?_
              refine ⟨⟨_, rfl, (by decide)⟩, ?_⟩
              refine Call_wp (lv := [some (vr 12), some (vi v0)]) (by decide) ckX0_has [] rfl rfl ?_
              refine ⟨fun c => absurd c (show (¬ ((v0 : Int) < 0)) from by first | omega | (simp only [wr, wl] at *; omega)), fun _ => ?_⟩
              refine ⟨_, rfl, (by decide), ?_⟩
              refine ⟨fun c => absurd c (show (¬ (((I 12 6) : Int) ≤ v0)) from by first | omega | (simp only [wr, wl] at *; omega)), fun _ => ?_⟩
              refine ⟨fun c => absurd c (show (¬ ((20 : Int) ≤ v0)) from by first | omega | (simp only [wr, wl] at *; omega)), fun _ => ?_⟩
              refine ⟨rfl, (by decide), ?_⟩
              refine ⟨fun c => absurd c (show (¬ ((1 : Int) = 0)) from by decide), fun _ => ?_⟩
              refine ⟨⟨_, rfl, (by decide)⟩, ?_⟩
              refine Call_wp (lv := [some (vr 12), some (vi v1)]) (by decide) ckX0_has [] rfl rfl ?_
              refine ⟨fun c => absurd c (show (¬ ((v1 : Int) < 0)) from by first | omega | (simp only [wr, wl] at *; omega)), fun _ => ?_⟩
              refine ⟨_, rfl, (by decide), ?_⟩
              refine ⟨fun c => absurd c (show (¬ (((I 12 6) : Int) ≤ v1)) from by first | omega | (simp only [wr, wl] at *; omega)), fun _ => ?_⟩
              refine ⟨fun c => absurd c (show (¬ ((20 : Int) ≤ v1)) from by first | omega | (simp only [wr, wl] at *; omega)), fun _ => ?_⟩
              refine ⟨rfl, (by decide), ?_⟩
              refine ⟨fun c => absurd c (show (¬ ((1 : Int) = 0)) from by decide), fun _ => ?_⟩
              refine ⟨fun (c8 : ((v1 : Int) ≤ v0)) => ?_, fun (c8 : (¬ ((v1 : Int) ≤ v0))) => ?_⟩
              ·
                refine ⟨rfl, (by decide), ?_⟩
                refine ⟨fun c => absurd (show ((0 : Int) = 0) from by decide) c, fun _ => ?_⟩
                refine ⟨⟨_, rfl, (by decide)⟩, ?_⟩
                refine s_X11_refuse hF (e := 3) (by decide) ?_
                exact ⟨rfl, fun hv hA' => hQ _ _ (Rg.u hR (Pr_f rfl)) hA' (hv _ rfl) (fun ka ja hk => (uI_o (show ¬ (ka = 203 ∧ ja = 3) from by first | (intro e; obtain ⟨rfl, rfl⟩ := e; exact hk (by decide)) | omega))) (show ((¬ ((0 ≤ v0 ∧ v0 < I 12 6) ∧ 0 ≤ v1 ∧ v1 < I 12 6) → (-1000003) = -1000001) ∧ (((0 ≤ v0 ∧ v0 < I 12 6) ∧ 0 ≤ v1 ∧ v1 < I 12 6) → (¬ (v0 < v1 ∧ I 13 (Int.toNat v0) = I 13 (Int.toNat v1) ∧ I 14 (Int.toNat v0) = I 14 (Int.toNat v1) ∧ I 18 (Int.toNat v0) < 0) → (-1000003) = -1000003) ∧ ((v0 < v1 ∧ I 13 (Int.toNat v0) = I 13 (Int.toNat v1) ∧ I 14 (Int.toNat v0) = I 14 (Int.toNat v1) ∧ I 18 (Int.toNat v0) < 0) → (-1000003) = 1))) ∧ ((-1000003) < 0 → ∀ j : Nat, (uI I 203 3 (wr ((I 203 3) + 1))) 18 j = I 18 j) ∧ (0 ≤ (-1000003) → ∀ j : Nat, ((j : Int) = v0 → (uI I 203 3 (wr ((I 203 3) + 1))) 18 j = v1) ∧ (¬ (j : Int) = v0 → (uI I 203 3 (wr ((I 203 3) + 1))) 18 j = I 18 j)) from by
                              refine ⟨⟨fun z => ?_, fun z => ⟨fun b => ?_, fun b => ?_⟩⟩, ?_, ?_⟩
                              any_goals first | rfl | omega | (exfalso; omega)
                              all_goals exact fun _ j => uI_o (show ¬ (18 = 203 ∧ j = 3) from fun e => absurd e.1 (Nat.ne_of_beq_eq_false rfl)))⟩
              ·
                refine ⟨_, rfl, (by decide), ?_⟩
                refine fun w0 hw0 => ?_; obtain rfl : w0 = some 18 := hw0.symm.trans (FS.g hF rfl)
                refine ⟨_, rfl, (by decide), (show (0 : Int) ≤ v0 from by first | with_reducible assumption | omega | (simp only [wr, wl] at *; omega)), (show v0 < (20 : Int) from by first | with_reducible assumption | omega | (simp only [wr, wl] at *; omega)), ?_⟩
                have a9 : -2147483648 ≤ (I 18 (Int.toNat v0)) ∧ (I 18 (Int.toNat v0)) < 2147483648 := hA.1 _ _
                refine ⟨fun (c10 : ((0 : Int) ≤ (I 18 (Int.toNat v0)))) => ?_, fun (c10 : (¬ ((0 : Int) ≤ (I 18 (Int.toNat v0))))) => ?_⟩
                ·
                  refine ⟨rfl, (by decide), ?_⟩
                  refine ⟨fun c => absurd (show ((0 : Int) = 0) from by decide) c, fun _ => ?_⟩
                  refine ⟨⟨_, rfl, (by decide)⟩, ?_⟩
                  refine s_X11_refuse hF (e := 3) (by decide) ?_
                  exact ⟨rfl, fun hv hA' => hQ _ _ (Rg.u hR (Pr_f rfl)) hA' (hv _ rfl) (fun ka ja hk => (uI_o (show ¬ (ka = 203 ∧ ja = 3) from by first | (intro e; obtain ⟨rfl, rfl⟩ := e; exact hk (by decide)) | omega))) (show ((¬ ((0 ≤ v0 ∧ v0 < I 12 6) ∧ 0 ≤ v1 ∧ v1 < I 12 6) → (-1000003) = -1000001) ∧ (((0 ≤ v0 ∧ v0 < I 12 6) ∧ 0 ≤ v1 ∧ v1 < I 12 6) → (¬ (v0 < v1 ∧ I 13 (Int.toNat v0) = I 13 (Int.toNat v1) ∧ I 14 (Int.toNat v0) = I 14 (Int.toNat v1) ∧ I 18 (Int.toNat v0) < 0) → (-1000003) = -1000003) ∧ ((v0 < v1 ∧ I 13 (Int.toNat v0) = I 13 (Int.toNat v1) ∧ I 14 (Int.toNat v0) = I 14 (Int.toNat v1) ∧ I 18 (Int.toNat v0) < 0) → (-1000003) = 1))) ∧ ((-1000003) < 0 → ∀ j : Nat, (uI I 203 3 (wr ((I 203 3) + 1))) 18 j = I 18 j) ∧ (0 ≤ (-1000003) → ∀ j : Nat, ((j : Int) = v0 → (uI I 203 3 (wr ((I 203 3) + 1))) 18 j = v1) ∧ (¬ (j : Int) = v0 → (uI I 203 3 (wr ((I 203 3) + 1))) 18 j = I 18 j)) from by
                              refine ⟨⟨fun z => ?_, fun z => ⟨fun b => ?_, fun b => ?_⟩⟩, ?_, ?_⟩
                              any_goals first | rfl | omega | (exfalso; omega)
                              all_goals exact fun _ j => uI_o (show ¬ (18 = 203 ∧ j = 3) from fun e => absurd e.1 (Nat.ne_of_beq_eq_false rfl)))⟩
                ·
                  refine ⟨_, rfl, (by decide), ?_⟩
                  refine fun w0 hw0 => ?_; obtain rfl : w0 = some 13 := hw0.symm.trans (FS.g hF rfl)
                  refine ⟨_, rfl, (by decide), (show (0 : Int) ≤ v0 from by first | with_reducible assumption | omega | (simp only [wr, wl] at *; omega)), (show v0 < (20 : Int) from by first | with_reducible assumption | omega | (simp only [wr, wl] at *; omega)), ?_⟩
                  refine ⟨_, rfl, (by decide), ?_⟩
                  refine fun w0 hw0 => ?_; obtain rfl : w0 = some 13 := hw0.symm.trans (FS.g hF rfl)
                  refine ⟨_, rfl, (by decide), (show (0 : Int) ≤ v1 from by first | with_reducible assumption | omega | (simp only [wr, wl] at *; omega)), (show v1 < (20 : Int) from by first | with_reducible assumption | omega | (simp only [wr, wl] at *; omega)), ?_⟩
                  have a11 : -2147483648 ≤ (I 13 (Int.toNat v0)) ∧ (I 13 (Int.toNat v0)) < 2147483648 := hA.1 _ _
                  have a12 : -2147483648 ≤ (I 13 (Int.toNat v1)) ∧ (I 13 (Int.toNat v1)) < 2147483648 := hA.1 _ _
                  refine ⟨fun (c13 : (¬ ((I 13 (Int.toNat v0)) : Int) = (I 13 (Int.toNat v1)))) => ?_, fun (c13 : (((I 13 (Int.toNat v0)) : Int) = (I 13 (Int.toNat v1)))) => ?_⟩
                  ·
                    refine ⟨rfl, (by decide), ?_⟩
                    refine ⟨fun c => absurd (show ((0 : Int) = 0) from by decide) c, fun _ => ?_⟩
                    refine ⟨⟨_, rfl, (by decide)⟩, ?_⟩
                    refine s_X11_refuse hF (e := 3) (by decide) ?_
                    exact ⟨rfl, fun hv hA' => hQ _ _ (Rg.u hR (Pr_f rfl)) hA' (hv _ rfl) (fun ka ja hk => (uI_o (show ¬ (ka = 203 ∧ ja = 3) from by first | (intro e; obtain ⟨rfl, rfl⟩ := e; exact hk (by decide)) | omega))) (show ((¬ ((0 ≤ v0 ∧ v0 < I 12 6) ∧ 0 ≤ v1 ∧ v1 < I 12 6) → (-1000003) = -1000001) ∧ (((0 ≤ v0 ∧ v0 < I 12 6) ∧ 0 ≤ v1 ∧ v1 < I 12 6) → (¬ (v0 < v1 ∧ I 13 (Int.toNat v0) = I 13 (Int.toNat v1) ∧ I 14 (Int.toNat v0) = I 14 (Int.toNat v1) ∧ I 18 (Int.toNat v0) < 0) → (-1000003) = -1000003) ∧ ((v0 < v1 ∧ I 13 (Int.toNat v0) = I 13 (Int.toNat v1) ∧ I 14 (Int.toNat v0) = I 14 (Int.toNat v1) ∧ I 18 (Int.toNat v0) < 0) → (-1000003) = 1))) ∧ ((-1000003) < 0 → ∀ j : Nat, (uI I 203 3 (wr ((I 203 3) + 1))) 18 j = I 18 j) ∧ (0 ≤ (-1000003) → ∀ j : Nat, ((j : Int) = v0 → (uI I 203 3 (wr ((I 203 3) + 1))) 18 j = v1) ∧ (¬ (j : Int) = v0 → (uI I 203 3 (wr ((I 203 3) + 1))) 18 j = I 18 j)) from by
                              refine ⟨⟨fun z => ?_, fun z => ⟨fun b => ?_, fun b => ?_⟩⟩, ?_, ?_⟩
                              any_goals first | rfl | omega | (exfalso; omega)
                              all_goals exact fun _ j => uI_o (show ¬ (18 = 203 ∧ j = 3) from fun e => absurd e.1 (Nat.ne_of_beq_eq_false rfl)))⟩
                  ·
                    refine ⟨_, rfl, (by decide), ?_⟩
                    refine fun w0 hw0 => ?_; obtain rfl : w0 = some 14 := hw0.symm.trans (FS.g hF rfl)
                    refine ⟨_, rfl, (by decide), (show (0 : Int) ≤ v0 from by first | with_reducible assumption | omega | (simp only [wr, wl] at *; omega)), (show v0 < (20 : Int) from by first | with_reducible assumption | omega | (simp only [wr, wl] at *; omega)), ?_⟩
                    refine ⟨_, rfl, (by decide), ?_⟩
                    refine fun w0 hw0 => ?_; obtain rfl : w0 = some 14 := hw0.symm.trans (FS.g hF rfl)
                    refine ⟨_, rfl, (by decide), (show (0 : Int) ≤ v1 from by first | with_reducible assumption | omega | (simp only [wr, wl] at *; omega)), (show v1 < (20 : Int) from by first | with_reducible assumption | omega | (simp only [wr, wl] at *; omega)), ?_⟩
                    have a14 : -2147483648 ≤ (I 14 (Int.toNat v0)) ∧ (I 14 (Int.toNat v0)) < 2147483648 := hA.1 _ _
                    have a15 : -2147483648 ≤ (I 14 (Int.toNat v1)) ∧ (I 14 (Int.toNat v1)) < 2147483648 := hA.1 _ _
                    refine ⟨fun (c16 : (¬ ((I 14 (Int.toNat v0)) : Int) = (I 14 (Int.toNat v1)))) => ?_, fun (c16 : (((I 14 (Int.toNat v0)) : Int) = (I 14 (Int.toNat v1)))) => ?_⟩
                    ·
                      refine ⟨rfl, (by decide), ?_⟩
                      refine ⟨fun c => absurd (show ((0 : Int) = 0) from by decide) c, fun _ => ?_⟩
                      refine ⟨⟨_, rfl, (by decide)⟩, ?_⟩
                      refine s_X11_refuse hF (e := 3) (by decide) ?_
                      exact ⟨rfl, fun hv hA' => hQ _ _ (Rg.u hR (Pr_f rfl)) hA' (hv _ rfl) (fun ka ja hk => (uI_o (show ¬ (ka = 203 ∧ ja = 3) from by first | (intro e; obtain ⟨rfl, rfl⟩ := e; exact hk (by decide)) | omega))) (show ((¬ ((0 ≤ v0 ∧ v0 < I 12 6) ∧ 0 ≤ v1 ∧ v1 < I 12 6) → (-1000003) = -1000001) ∧ (((0 ≤ v0 ∧ v0 < I 12 6) ∧ 0 ≤ v1 ∧ v1 < I 12 6) → (¬ (v0 < v1 ∧ I 13 (Int.toNat v0) = I 13 (Int.toNat v1) ∧ I 14 (Int.toNat v0) = I 14 (Int.toNat v1) ∧ I 18 (Int.toNat v0) < 0) → (-1000003) = -1000003) ∧ ((v0 < v1 ∧ I 13 (Int.toNat v0) = I 13 (Int.toNat v1) ∧ I 14 (Int.toNat v0) = I 14 (Int.toNat v1) ∧ I 18 (Int.toNat v0) < 0) → (-1000003) = 1))) ∧ ((-1000003) < 0 → ∀ j : Nat, (uI I 203 3 (wr ((I 203 3) + 1))) 18 j = I 18 j) ∧ (0 ≤ (-1000003) → ∀ j : Nat, ((j : Int) = v0 → (uI I 203 3 (wr ((I 203 3) + 1))) 18 j = v1) ∧ (¬ (j : Int) = v0 → (uI I 203 3 (wr ((I 203 3) + 1))) 18 j = I 18 j)) from by
                              refine ⟨⟨fun z => ?_, fun z => ⟨fun b => ?_, fun b => ?_⟩⟩, ?_, ?_⟩
                              any_goals first | rfl | omega | (exfalso; omega)
                              all_goals exact fun _ j => uI_o (show ¬ (18 = 203 ∧ j = 3) from fun e => absurd e.1 (Nat.ne_of_beq_eq_false rfl)))⟩
                    ·
                      refine ⟨rfl, (by decide), ?_⟩
                      refine ⟨fun _ => ?_, fun c => absurd c (show (¬ (1 : Int) = 0) from by decide)⟩
                      refine ⟨_, rfl, (by decide), ?_⟩
                      refine fun w0 hw0 => ?_; obtain rfl : w0 = some 1 := hw0.symm.trans (FS.g hF rfl)
                      refine ⟨_, rfl, (by decide), ?_⟩
                      refine fun w0 hw0 => ?_; obtain rfl : w0 = some 12 := hw0.symm.trans (FS.g hF rfl)
                      refine ⟨⟨_, rfl, (by decide)⟩, ?_⟩
                      refine Call_wp (lv := [some (vr 12), some (vi v0), some (vi v1)]) (by decide) ckX0_takeBack [] rfl rfl ?_
                      refine ⟨⟨_, rfl, (by decide)⟩, ?_⟩
                      refine Call_wp (lv := [some (vr 12), some (vi v0)]) (by decide) ckX0_has [] rfl rfl ?_
                      refine ⟨fun c => absurd c (show (¬ ((v0 : Int) < 0)) from by first | omega | (simp only [wr, wl] at *; omega)), fun _ => ?_⟩
                      refine ⟨_, rfl, (by decide), ?_⟩
                      refine ⟨fun c => absurd c (show (¬ (((I 12 6) : Int) ≤ v0)) from by first | omega | (simp only [wr, wl] at *; omega)), fun _ => ?_⟩
                      refine ⟨fun c => absurd c (show (¬ ((20 : Int) ≤ v0)) from by first | omega | (simp only [wr, wl] at *; omega)), fun _ => ?_⟩
                      refine ⟨rfl, (by decide), ?_⟩
                      refine ⟨fun c => absurd c (show (¬ ((1 : Int) = 0)) from by decide), fun _ => ?_⟩
                      refine ⟨_, rfl, (by decide), ?_⟩
                      refine fun w0 hw0 => ?_; obtain rfl : w0 = some 18 := hw0.symm.trans (FS.g hF rfl)
                      refine ⟨_, rfl, (by decide), (show (0 : Int) ≤ v0 from by first | with_reducible assumption | omega | (simp only [wr, wl] at *; omega)), (show v0 < (20 : Int) from by first | with_reducible assumption | omega | (simp only [wr, wl] at *; omega)), ?_⟩
                      refine ⟨rfl, ?_⟩
                      exact ⟨rfl, fun hv hA' => hQ _ _ (Rg.u hR (Pr_p (k := 18) rfl _ _)) hA' (hv _ rfl) (fun ka ja hk => (uI_o (show ¬ (ka = 18 ∧ ja = (Int.toNat v0)) from by first | (intro e; obtain ⟨rfl, _⟩ := e; exact hk (by decide)) | omega))) (show ((¬ ((0 ≤ v0 ∧ v0 < I 12 6) ∧ 0 ≤ v1 ∧ v1 < I 12 6) → 1 = -1000001) ∧ (((0 ≤ v0 ∧ v0 < I 12 6) ∧ 0 ≤ v1 ∧ v1 < I 12 6) → (¬ (v0 < v1 ∧ I 13 (Int.toNat v0) = I 13 (Int.toNat v1) ∧ I 14 (Int.toNat v0) = I 14 (Int.toNat v1) ∧ I 18 (Int.toNat v0) < 0) → 1 = -1000003) ∧ ((v0 < v1 ∧ I 13 (Int.toNat v0) = I 13 (Int.toNat v1) ∧ I 14 (Int.toNat v0) = I 14 (Int.toNat v1) ∧ I 18 (Int.toNat v0) < 0) → 1 = 1))) ∧ (1 < 0 → ∀ j : Nat, (uI I 18 (Int.toNat v0) v1) 18 j = I 18 j) ∧ (0 ≤ 1 → ∀ j : Nat, ((j : Int) = v0 → (uI I 18 (Int.toNat v0) v1) 18 j = v1) ∧ (¬ (j : Int) = v0 → (uI I 18 (Int.toNat v0) v1) 18 j = I 18 j)) from by
                              refine ⟨⟨fun z => ?_, fun z => ⟨fun b => ?_, fun b => ?_⟩⟩, ?_, ?_⟩
                              any_goals first | rfl | omega | (exfalso; omega)
                              all_goals exact fun _ j => ⟨fun e => uJ_eqj (show j = (Int.toNat v0) from by omega), fun e => uJ_ne (show ¬ j = (Int.toNat v0) from by omega)⟩)⟩
theorem r_back11 (hF : FS F) (hR : Rg I) {v0 v1 : Int}  (hQ : ∀ (r : Int) (I' : pI), Rg I' → AR I' → iR r → (∀ k j, ¬ (k = 238 ∨ (k = 236 ∧ j = 189 + 6 * Int.toNat v0 ∧ j < 304)) → I' k j = I k j) → (((¬ ((0 ≤ v0 ∧ v0 < I 236 1) ∧ 0 ≤ v1 ∧ v1 < I 236 1) → r = -1000001) ∧ (((0 ≤ v0 ∧ v0 < I 236 1) ∧ 0 ≤ v1 ∧ v1 < I 236 1) → (¬ (v0 < v1 ∧ I 236 (184 + 6 * (Int.toNat v0)) = I 236 (184 + 6 * (Int.toNat v1)) ∧ I 236 (185 + 6 * (Int.toNat v0)) = I 236 (185 + 6 * (Int.toNat v1)) ∧ I 236 (189 + 6 * (Int.toNat v0)) < 0) → r = -1000003) ∧ ((v0 < v1 ∧ I 236 (184 + 6 * (Int.toNat v0)) = I 236 (184 + 6 * (Int.toNat v1)) ∧ I 236 (185 + 6 * (Int.toNat v0)) = I 236 (185 + 6 * (Int.toNat v1)) ∧ I 236 (189 + 6 * (Int.toNat v0)) < 0) → r = 1))) ∧ (r < 0 → ∀ j : Nat, j < 20 → I' 236 (189 + 6 * j) = I 236 (189 + 6 * j)) ∧ (0 ≤ r → ∀ j : Nat, j < 20 → ((j : Int) = v0 → I' 236 (189 + 6 * j) = v1) ∧ (¬ (j : Int) = v0 → I' 236 (189 + 6 * j) = I 236 (189 + 6 * j)))) → Q (some (vi r)) F I') : CallN G (d + 2) kX12_back [vr 235, vi v0, vi v1] NP F I Q := by
  refine CallN_in (fun hok hA => CallN_out ?_)
  have iv0 : -2147483648 ≤ v0 ∧ v0 < 2147483648 := hok (vi v0) (by simp)
  have iv1 : -2147483648 ≤ v1 ∧ v1 < 2147483648 := hok (vi v1) (by simp)
  refine Call_wp (lv := [some (vr 235), some (vi v0), some (vi v1), none]) (by decide) ckX12_back [] rfl rfl ?_
  refine ⟨⟨_, rfl, (by decide)⟩, ?_⟩
  have r1 : 0 ≤ (I 236 1) ∧ (I 236 1) ≤ 20 := Rg.n1 hR
  refine s_X12_is hF (w := 1) (by decide) (show 0 ≤ (I 236 1) ∧ (I 236 1) < 1000000 from by omega) (fun (w2 : (0 ≤ v0 ∧ v0 < (I 236 1))) => ?_) (fun (w2 : ¬ (0 ≤ v0 ∧ v0 < (I 236 1))) => ?_)
  ·
    refine ⟨fun c => absurd c (show (¬ ((1 : Int) = 0)) from by decide), fun _ => ?_⟩
    refine ⟨⟨_, rfl, (by decide)⟩, ?_⟩
    refine s_X12_is hF (w := 1) (by decide) (show 0 ≤ (I 236 1) ∧ (I 236 1) < 1000000 from by omega) (fun (w3 : (0 ≤ v1 ∧ v1 < (I 236 1))) => ?_) (fun (w3 : ¬ (0 ≤ v1 ∧ v1 < (I 236 1))) => ?_)
    ·
      refine ⟨fun _ => ?_, fun c => absurd c (show (¬ (1 : Int) = 0) from by decide)⟩
      refine ⟨⟨_, rfl, (by decide)⟩, ?_⟩
      refine Call_wp (lv := [some (vr 235), some (vi v0), some (vi 0)]) (by decide) ckX12_entry [] rfl rfl ?_
      refine ⟨_, rfl, (by decide), ?_⟩
      refine fun w0 hw0 => ?_; obtain rfl : w0 = some 236 := hw0.symm.trans (FS.g hF rfl)
      have n4 : (wr (6 * v0)) = 6 * v0 := wr_id (show -2147483648 ≤ (6 * v0 : Int) ∧ (6 * v0 : Int) < 2147483648 from by omega)
      have n5 : (wr (184 + (wr (6 * v0)))) = 184 + (wr (6 * v0)) := wr_id (show -2147483648 ≤ (184 + (wr (6 * v0)) : Int) ∧ (184 + (wr (6 * v0)) : Int) < 2147483648 from by omega)
      have n6 : (wr ((wr (184 + (wr (6 * v0)))) + 0)) = (wr (184 + (wr (6 * v0)))) + 0 := wr_id (show -2147483648 ≤ ((wr (184 + (wr (6 * v0)))) + 0 : Int) ∧ ((wr (184 + (wr (6 * v0)))) + 0 : Int) < 2147483648 from by omega)
      refine ⟨_, rfl, (by decide), (show (0 : Int) ≤ (wr ((wr (184 + (wr (6 * v0)))) + 0)) from by first | with_reducible assumption | omega | (simp only [wr, wl] at *; omega)), (show (wr ((wr (184 + (wr (6 * v0)))) + 0)) < (1340 : Int) from by first | with_reducible assumption | omega | (simp only [wr, wl] at *; omega)), ?_⟩
      have z7 : (I 236 (Int.toNat (wr ((wr (184 + (wr (6 * v0)))) + 0)))) = I 236 (184 + 6 * Int.toNat v0) := (rfl).trans (congrArg (I 236) (by omega))
      refine ⟨rfl, ?_⟩
      refine ⟨⟨_, rfl, (by decide)⟩, ?_⟩
      refine Call_wp (lv := [some (vr 235), some (vi v1), some (vi 0)]) (by decide) ckX12_entry [] rfl rfl ?_
      refine ⟨_, rfl, (by decide), ?_⟩
      refine fun w0 hw0 => ?_; obtain rfl : w0 = some 236 := hw0.symm.trans (FS.g hF rfl)
      have n8 : (wr (6 * v1)) = 6 * v1 := wr_id (show -2147483648 ≤ (6 * v1 : Int) ∧ (6 * v1 : Int) < 2147483648 from by omega)
      have n9 : (wr (184 + (wr (6 * v1)))) = 184 + (wr (6 * v1)) := wr_id (show -2147483648 ≤ (184 + (wr (6 * v1)) : Int) ∧ (184 + (wr (6 * v1)) : Int) < 2147483648 from by omega)
      have n10 : (wr ((wr (184 + (wr (6 * v1)))) + 0)) = (wr (184 + (wr (6 * v1)))) + 0 := wr_id (show -2147483648 ≤ ((wr (184 + (wr (6 * v1)))) + 0 : Int) ∧ ((wr (184 + (wr (6 * v1)))) + 0 : Int) < 2147483648 from by omega)
      refine ⟨_, rfl, (by decide), (show (0 : Int) ≤ (wr ((wr (184 + (wr (6 * v1)))) + 0)) from by first | with_reducible assumption | omega | (simp only [wr, wl] at *; omega)), (show (wr ((wr (184 + (wr (6 * v1)))) + 0)) < (1340 : Int) from by first | with_reducible assumption | omega | (simp only [wr, wl] at *; omega)), ?_⟩
      have z11 : (I 236 (Int.toNat (wr ((wr (184 + (wr (6 * v1)))) + 0)))) = I 236 (184 + 6 * Int.toNat v1) := (rfl).trans (congrArg (I 236) (by omega))
      refine ⟨rfl, ?_⟩
      have a12 : -2147483648 ≤ (I 236 (Int.toNat (wr ((wr (184 + (wr (6 * v0)))) + 0)))) ∧ (I 236 (Int.toNat (wr ((wr (184 + (wr (6 * v0)))) + 0)))) < 2147483648 := hA.1 _ _
      have a13 : -2147483648 ≤ (I 236 (Int.toNat (wr ((wr (184 + (wr (6 * v1)))) + 0)))) ∧ (I 236 (Int.toNat (wr ((wr (184 + (wr (6 * v1)))) + 0)))) < 2147483648 := hA.1 _ _
      refine ⟨fun (c14 : (¬ ((I 236 (Int.toNat (wr ((wr (184 + (wr (6 * v0)))) + 0)))) : Int) = (I 236 (Int.toNat (wr ((wr (184 + (wr (6 * v1)))) + 0)))))) => ?_, fun (c14 : (((I 236 (Int.toNat (wr ((wr (184 + (wr (6 * v0)))) + 0)))) : Int) = (I 236 (Int.toNat (wr ((wr (184 + (wr (6 * v1)))) + 0)))))) => ?_⟩
      ·
        refine ⟨fun (c15 : ((v1 : Int) ≤ v0)) => ?_, fun (c15 : (¬ ((v1 : Int) ≤ v0))) => ?_⟩
        ·
          refine ⟨⟨_, rfl, (by decide)⟩, ?_⟩
          refine s_X12_finding hF (v := (-1000003)) (by decide) ?_
          exact ⟨rfl, fun hv hA' => hQ _ _ (Rg.u hR (Pr_f rfl)) hA' (hv _ rfl) (fun ka ja hk => (uI_o (show ¬ (ka = 238 ∧ ja = 3) from by first | (intro e; obtain ⟨rfl, rfl⟩ := e; exact hk (by decide)) | omega))) (show ((¬ ((0 ≤ v0 ∧ v0 < I 236 1) ∧ 0 ≤ v1 ∧ v1 < I 236 1) → (-1000003) = -1000001) ∧ (((0 ≤ v0 ∧ v0 < I 236 1) ∧ 0 ≤ v1 ∧ v1 < I 236 1) → (¬ (v0 < v1 ∧ I 236 (184 + 6 * (Int.toNat v0)) = I 236 (184 + 6 * (Int.toNat v1)) ∧ I 236 (185 + 6 * (Int.toNat v0)) = I 236 (185 + 6 * (Int.toNat v1)) ∧ I 236 (189 + 6 * (Int.toNat v0)) < 0) → (-1000003) = -1000003) ∧ ((v0 < v1 ∧ I 236 (184 + 6 * (Int.toNat v0)) = I 236 (184 + 6 * (Int.toNat v1)) ∧ I 236 (185 + 6 * (Int.toNat v0)) = I 236 (185 + 6 * (Int.toNat v1)) ∧ I 236 (189 + 6 * (Int.toNat v0)) < 0) → (-1000003) = 1))) ∧ ((-1000003) < 0 → ∀ j : Nat, j < 20 → (uI I 238 3 (wr ((I 238 3) + 1))) 236 (189 + 6 * j) = I 236 (189 + 6 * j)) ∧ (0 ≤ (-1000003) → ∀ j : Nat, j < 20 → ((j : Int) = v0 → (uI I 238 3 (wr ((I 238 3) + 1))) 236 (189 + 6 * j) = v1) ∧ (¬ (j : Int) = v0 → (uI I 238 3 (wr ((I 238 3) + 1))) 236 (189 + 6 * j) = I 236 (189 + 6 * j))) from by
                              refine ⟨⟨fun z => ?_, fun z => ⟨fun b => ?_, fun b => ?_⟩⟩, ?_, ?_⟩
                              any_goals first | rfl | omega | (exfalso; omega)
                              all_goals exact fun _ j hj => uI_o (show ¬ (236 = 238 ∧ (189 + 6 * j) = 3) from fun e => absurd e.1 (Nat.ne_of_beq_eq_false rfl)))⟩
        ·
          refine ⟨fun _ => ?_, fun c => absurd (show ((0 : Int) = 0) from by decide) c⟩
          refine ⟨⟨_, rfl, (by decide)⟩, ?_⟩
          refine s_X12_finding hF (v := (-1000003)) (by decide) ?_
          exact ⟨rfl, fun hv hA' => hQ _ _ (Rg.u hR (Pr_f rfl)) hA' (hv _ rfl) (fun ka ja hk => (uI_o (show ¬ (ka = 238 ∧ ja = 3) from by first | (intro e; obtain ⟨rfl, rfl⟩ := e; exact hk (by decide)) | omega))) (show ((¬ ((0 ≤ v0 ∧ v0 < I 236 1) ∧ 0 ≤ v1 ∧ v1 < I 236 1) → (-1000003) = -1000001) ∧ (((0 ≤ v0 ∧ v0 < I 236 1) ∧ 0 ≤ v1 ∧ v1 < I 236 1) → (¬ (v0 < v1 ∧ I 236 (184 + 6 * (Int.toNat v0)) = I 236 (184 + 6 * (Int.toNat v1)) ∧ I 236 (185 + 6 * (Int.toNat v0)) = I 236 (185 + 6 * (Int.toNat v1)) ∧ I 236 (189 + 6 * (Int.toNat v0)) < 0) → (-1000003) = -1000003) ∧ ((v0 < v1 ∧ I 236 (184 + 6 * (Int.toNat v0)) = I 236 (184 + 6 * (Int.toNat v1)) ∧ I 236 (185 + 6 * (Int.toNat v0)) = I 236 (185 + 6 * (Int.toNat v1)) ∧ I 236 (189 + 6 * (Int.toNat v0)) < 0) → (-1000003) = 1))) ∧ ((-1000003) < 0 → ∀ j : Nat, j < 20 → (uI I 238 3 (wr ((I 238 3) + 1))) 236 (189 + 6 * j) = I 236 (189 + 6 * j)) ∧ (0 ≤ (-1000003) → ∀ j : Nat, j < 20 → ((j : Int) = v0 → (uI I 238 3 (wr ((I 238 3) + 1))) 236 (189 + 6 * j) = v1) ∧ (¬ (j : Int) = v0 → (uI I 238 3 (wr ((I 238 3) + 1))) 236 (189 + 6 * j) = I 236 (189 + 6 * j))) from by
                              refine ⟨⟨fun z => ?_, fun z => ⟨fun b => ?_, fun b => ?_⟩⟩, ?_, ?_⟩
                              any_goals first | rfl | omega | (exfalso; omega)
                              all_goals exact fun _ j hj => uI_o (show ¬ (236 = 238 ∧ (189 + 6 * j) = 3) from fun e => absurd e.1 (Nat.ne_of_beq_eq_false rfl)))⟩
      ·
        refine ⟨⟨_, rfl, (by decide)⟩, ?_⟩
        refine Call_wp (lv := [some (vr 235), some (vi v0), some (vi 1)]) (by decide) ckX12_entry [] rfl rfl ?_
        refine ⟨_, rfl, (by decide), ?_⟩
        refine fun w0 hw0 => ?_; obtain rfl : w0 = some 236 := hw0.symm.trans (FS.g hF rfl)
        have n16 : (wr ((wr (184 + (wr (6 * v0)))) + 1)) = (wr (184 + (wr (6 * v0)))) + 1 := wr_id (show -2147483648 ≤ ((wr (184 + (wr (6 * v0)))) + 1 : Int) ∧ ((wr (184 + (wr (6 * v0)))) + 1 : Int) < 2147483648 from by omega)
        refine ⟨_, rfl, (by decide), (show (0 : Int) ≤ (wr ((wr (184 + (wr (6 * v0)))) + 1)) from by first | with_reducible assumption | omega | (simp only [wr, wl] at *; omega)), (show (wr ((wr (184 + (wr (6 * v0)))) + 1)) < (1340 : Int) from by first | with_reducible assumption | omega | (simp only [wr, wl] at *; omega)), ?_⟩
        have z17 : (I 236 (Int.toNat (wr ((wr (184 + (wr (6 * v0)))) + 1)))) = I 236 (185 + 6 * Int.toNat v0) := (rfl).trans (congrArg (I 236) (by omega))
        refine ⟨rfl, ?_⟩
        refine ⟨⟨_, rfl, (by decide)⟩, ?_⟩
        refine Call_wp (lv := [some (vr 235), some (vi v1), some (vi 1)]) (by decide) ckX12_entry [] rfl rfl ?_
        refine ⟨_, rfl, (by decide), ?_⟩
        refine fun w0 hw0 => ?_; obtain rfl : w0 = some 236 := hw0.symm.trans (FS.g hF rfl)
        have n18 : (wr ((wr (184 + (wr (6 * v1)))) + 1)) = (wr (184 + (wr (6 * v1)))) + 1 := wr_id (show -2147483648 ≤ ((wr (184 + (wr (6 * v1)))) + 1 : Int) ∧ ((wr (184 + (wr (6 * v1)))) + 1 : Int) < 2147483648 from by omega)
        refine ⟨_, rfl, (by decide), (show (0 : Int) ≤ (wr ((wr (184 + (wr (6 * v1)))) + 1)) from by first | with_reducible assumption | omega | (simp only [wr, wl] at *; omega)), (show (wr ((wr (184 + (wr (6 * v1)))) + 1)) < (1340 : Int) from by first | with_reducible assumption | omega | (simp only [wr, wl] at *; omega)), ?_⟩
        have z19 : (I 236 (Int.toNat (wr ((wr (184 + (wr (6 * v1)))) + 1)))) = I 236 (185 + 6 * Int.toNat v1) := (rfl).trans (congrArg (I 236) (by omega))
        refine ⟨rfl, ?_⟩
        have a20 : -2147483648 ≤ (I 236 (Int.toNat (wr ((wr (184 + (wr (6 * v0)))) + 1)))) ∧ (I 236 (Int.toNat (wr ((wr (184 + (wr (6 * v0)))) + 1)))) < 2147483648 := hA.1 _ _
        have a21 : -2147483648 ≤ (I 236 (Int.toNat (wr ((wr (184 + (wr (6 * v1)))) + 1)))) ∧ (I 236 (Int.toNat (wr ((wr (184 + (wr (6 * v1)))) + 1)))) < 2147483648 := hA.1 _ _
        refine ⟨fun (c22 : (¬ ((I 236 (Int.toNat (wr ((wr (184 + (wr (6 * v0)))) + 1)))) : Int) = (I 236 (Int.toNat (wr ((wr (184 + (wr (6 * v1)))) + 1)))))) => ?_, fun (c22 : (((I 236 (Int.toNat (wr ((wr (184 + (wr (6 * v0)))) + 1)))) : Int) = (I 236 (Int.toNat (wr ((wr (184 + (wr (6 * v1)))) + 1)))))) => ?_⟩
        ·
          refine ⟨fun (c23 : ((v1 : Int) ≤ v0)) => ?_, fun (c23 : (¬ ((v1 : Int) ≤ v0))) => ?_⟩
          ·
            refine ⟨⟨_, rfl, (by decide)⟩, ?_⟩
            refine s_X12_finding hF (v := (-1000003)) (by decide) ?_
            exact ⟨rfl, fun hv hA' => hQ _ _ (Rg.u hR (Pr_f rfl)) hA' (hv _ rfl) (fun ka ja hk => (uI_o (show ¬ (ka = 238 ∧ ja = 3) from by first | (intro e; obtain ⟨rfl, rfl⟩ := e; exact hk (by decide)) | omega))) (show ((¬ ((0 ≤ v0 ∧ v0 < I 236 1) ∧ 0 ≤ v1 ∧ v1 < I 236 1) → (-1000003) = -1000001) ∧ (((0 ≤ v0 ∧ v0 < I 236 1) ∧ 0 ≤ v1 ∧ v1 < I 236 1) → (¬ (v0 < v1 ∧ I 236 (184 + 6 * (Int.toNat v0)) = I 236 (184 + 6 * (Int.toNat v1)) ∧ I 236 (185 + 6 * (Int.toNat v0)) = I 236 (185 + 6 * (Int.toNat v1)) ∧ I 236 (189 + 6 * (Int.toNat v0)) < 0) → (-1000003) = -1000003) ∧ ((v0 < v1 ∧ I 236 (184 + 6 * (Int.toNat v0)) = I 236 (184 + 6 * (Int.toNat v1)) ∧ I 236 (185 + 6 * (Int.toNat v0)) = I 236 (185 + 6 * (Int.toNat v1)) ∧ I 236 (189 + 6 * (Int.toNat v0)) < 0) → (-1000003) = 1))) ∧ ((-1000003) < 0 → ∀ j : Nat, j < 20 → (uI I 238 3 (wr ((I 238 3) + 1))) 236 (189 + 6 * j) = I 236 (189 + 6 * j)) ∧ (0 ≤ (-1000003) → ∀ j : Nat, j < 20 → ((j : Int) = v0 → (uI I 238 3 (wr ((I 238 3) + 1))) 236 (189 + 6 * j) = v1) ∧ (¬ (j : Int) = v0 → (uI I 238 3 (wr ((I 238 3) + 1))) 236 (189 + 6 * j) = I 236 (189 + 6 * j))) from by
                              refine ⟨⟨fun z => ?_, fun z => ⟨fun b => ?_, fun b => ?_⟩⟩, ?_, ?_⟩
                              any_goals first | rfl | omega | (exfalso; omega)
                              all_goals exact fun _ j hj => uI_o (show ¬ (236 = 238 ∧ (189 + 6 * j) = 3) from fun e => absurd e.1 (Nat.ne_of_beq_eq_false rfl)))⟩
          ·
            refine ⟨fun _ => ?_, fun c => absurd (show ((0 : Int) = 0) from by decide) c⟩
            refine ⟨⟨_, rfl, (by decide)⟩, ?_⟩
            refine s_X12_finding hF (v := (-1000003)) (by decide) ?_
            exact ⟨rfl, fun hv hA' => hQ _ _ (Rg.u hR (Pr_f rfl)) hA' (hv _ rfl) (fun ka ja hk => (uI_o (show ¬ (ka = 238 ∧ ja = 3) from by first | (intro e; obtain ⟨rfl, rfl⟩ := e; exact hk (by decide)) | omega))) (show ((¬ ((0 ≤ v0 ∧ v0 < I 236 1) ∧ 0 ≤ v1 ∧ v1 < I 236 1) → (-1000003) = -1000001) ∧ (((0 ≤ v0 ∧ v0 < I 236 1) ∧ 0 ≤ v1 ∧ v1 < I 236 1) → (¬ (v0 < v1 ∧ I 236 (184 + 6 * (Int.toNat v0)) = I 236 (184 + 6 * (Int.toNat v1)) ∧ I 236 (185 + 6 * (Int.toNat v0)) = I 236 (185 + 6 * (Int.toNat v1)) ∧ I 236 (189 + 6 * (Int.toNat v0)) < 0) → (-1000003) = -1000003) ∧ ((v0 < v1 ∧ I 236 (184 + 6 * (Int.toNat v0)) = I 236 (184 + 6 * (Int.toNat v1)) ∧ I 236 (185 + 6 * (Int.toNat v0)) = I 236 (185 + 6 * (Int.toNat v1)) ∧ I 236 (189 + 6 * (Int.toNat v0)) < 0) → (-1000003) = 1))) ∧ ((-1000003) < 0 → ∀ j : Nat, j < 20 → (uI I 238 3 (wr ((I 238 3) + 1))) 236 (189 + 6 * j) = I 236 (189 + 6 * j)) ∧ (0 ≤ (-1000003) → ∀ j : Nat, j < 20 → ((j : Int) = v0 → (uI I 238 3 (wr ((I 238 3) + 1))) 236 (189 + 6 * j) = v1) ∧ (¬ (j : Int) = v0 → (uI I 238 3 (wr ((I 238 3) + 1))) 236 (189 + 6 * j) = I 236 (189 + 6 * j))) from by
                              refine ⟨⟨fun z => ?_, fun z => ⟨fun b => ?_, fun b => ?_⟩⟩, ?_, ?_⟩
                              any_goals first | rfl | omega | (exfalso; omega)
                              all_goals exact fun _ j hj => uI_o (show ¬ (236 = 238 ∧ (189 + 6 * j) = 3) from fun e => absurd e.1 (Nat.ne_of_beq_eq_false rfl)))⟩
        ·
          refine ⟨fun (c24 : ((v1 : Int) ≤ v0)) => ?_, fun (c24 : (¬ ((v1 : Int) ≤ v0))) => ?_⟩
          ·
            refine ⟨⟨_, rfl, (by decide)⟩, ?_⟩
            refine s_X12_finding hF (v := (-1000003)) (by decide) ?_
            exact ⟨rfl, fun hv hA' => hQ _ _ (Rg.u hR (Pr_f rfl)) hA' (hv _ rfl) (fun ka ja hk => (uI_o (show ¬ (ka = 238 ∧ ja = 3) from by first | (intro e; obtain ⟨rfl, rfl⟩ := e; exact hk (by decide)) | omega))) (show ((¬ ((0 ≤ v0 ∧ v0 < I 236 1) ∧ 0 ≤ v1 ∧ v1 < I 236 1) → (-1000003) = -1000001) ∧ (((0 ≤ v0 ∧ v0 < I 236 1) ∧ 0 ≤ v1 ∧ v1 < I 236 1) → (¬ (v0 < v1 ∧ I 236 (184 + 6 * (Int.toNat v0)) = I 236 (184 + 6 * (Int.toNat v1)) ∧ I 236 (185 + 6 * (Int.toNat v0)) = I 236 (185 + 6 * (Int.toNat v1)) ∧ I 236 (189 + 6 * (Int.toNat v0)) < 0) → (-1000003) = -1000003) ∧ ((v0 < v1 ∧ I 236 (184 + 6 * (Int.toNat v0)) = I 236 (184 + 6 * (Int.toNat v1)) ∧ I 236 (185 + 6 * (Int.toNat v0)) = I 236 (185 + 6 * (Int.toNat v1)) ∧ I 236 (189 + 6 * (Int.toNat v0)) < 0) → (-1000003) = 1))) ∧ ((-1000003) < 0 → ∀ j : Nat, j < 20 → (uI I 238 3 (wr ((I 238 3) + 1))) 236 (189 + 6 * j) = I 236 (189 + 6 * j)) ∧ (0 ≤ (-1000003) → ∀ j : Nat, j < 20 → ((j : Int) = v0 → (uI I 238 3 (wr ((I 238 3) + 1))) 236 (189 + 6 * j) = v1) ∧ (¬ (j : Int) = v0 → (uI I 238 3 (wr ((I 238 3) + 1))) 236 (189 + 6 * j) = I 236 (189 + 6 * j))) from by
                              refine ⟨⟨fun z => ?_, fun z => ⟨fun b => ?_, fun b => ?_⟩⟩, ?_, ?_⟩
                              any_goals first | rfl | omega | (exfalso; omega)
                              all_goals exact fun _ j hj => uI_o (show ¬ (236 = 238 ∧ (189 + 6 * j) = 3) from fun e => absurd e.1 (Nat.ne_of_beq_eq_false rfl)))⟩
          ·
            refine ⟨fun c => absurd c (show (¬ ((1 : Int) = 0)) from by decide), fun _ => ?_⟩
            refine ⟨⟨_, rfl, (by decide)⟩, ?_⟩
            refine Call_wp (lv := [some (vr 235), some (vi v0), some (vi 5)]) (by decide) ckX12_entry [] rfl rfl ?_
            refine ⟨_, rfl, (by decide), ?_⟩
            refine fun w0 hw0 => ?_; obtain rfl : w0 = some 236 := hw0.symm.trans (FS.g hF rfl)
            have n25 : (wr ((wr (184 + (wr (6 * v0)))) + 5)) = (wr (184 + (wr (6 * v0)))) + 5 := wr_id (show -2147483648 ≤ ((wr (184 + (wr (6 * v0)))) + 5 : Int) ∧ ((wr (184 + (wr (6 * v0)))) + 5 : Int) < 2147483648 from by omega)
            refine ⟨_, rfl, (by decide), (show (0 : Int) ≤ (wr ((wr (184 + (wr (6 * v0)))) + 5)) from by first | with_reducible assumption | omega | (simp only [wr, wl] at *; omega)), (show (wr ((wr (184 + (wr (6 * v0)))) + 5)) < (1340 : Int) from by first | with_reducible assumption | omega | (simp only [wr, wl] at *; omega)), ?_⟩
            have z26 : (I 236 (Int.toNat (wr ((wr (184 + (wr (6 * v0)))) + 5)))) = I 236 (189 + 6 * Int.toNat v0) := (rfl).trans (congrArg (I 236) (by omega))
            refine ⟨rfl, ?_⟩
            have a27 : -2147483648 ≤ (I 236 (Int.toNat (wr ((wr (184 + (wr (6 * v0)))) + 5)))) ∧ (I 236 (Int.toNat (wr ((wr (184 + (wr (6 * v0)))) + 5)))) < 2147483648 := hA.1 _ _
            refine ⟨fun (c28 : (((I 236 (Int.toNat (wr ((wr (184 + (wr (6 * v0)))) + 5)))) : Int) < 0)) => ?_, fun (c28 : (¬ (((I 236 (Int.toNat (wr ((wr (184 + (wr (6 * v0)))) + 5)))) : Int) < 0))) => ?_⟩
            ·
              refine ⟨_, rfl, (by decide), ?_⟩
              refine fun w0 hw0 => ?_; obtain rfl : w0 = some 236 := hw0.symm.trans (FS.g hF rfl)
              refine ⟨_, rfl, (by decide), (show (0 : Int) ≤ (wr ((wr (184 + (wr (6 * v0)))) + 5)) from by first | with_reducible assumption | omega | (simp only [wr, wl] at *; omega)), (show (wr ((wr (184 + (wr (6 * v0)))) + 5)) < (1340 : Int) from by first | with_reducible assumption | omega | (simp only [wr, wl] at *; omega)), ?_⟩
              have p29 : Pn (Int.toNat (wr ((wr (184 + (wr (6 * v0)))) + 5))) v1 := by apply Pn_w <;> omega
              exact ⟨rfl, fun hv hA' => hQ _ _ (Rg.u hR (Pr_n p29)) hA' (hv _ rfl) (fun ka ja hk => (uI_o (show ¬ (ka = 236 ∧ ja = (Int.toNat (wr ((wr (184 + (wr (6 * v0)))) + 5)))) from by omega))) (show ((¬ ((0 ≤ v0 ∧ v0 < I 236 1) ∧ 0 ≤ v1 ∧ v1 < I 236 1) → 1 = -1000001) ∧ (((0 ≤ v0 ∧ v0 < I 236 1) ∧ 0 ≤ v1 ∧ v1 < I 236 1) → (¬ (v0 < v1 ∧ I 236 (184 + 6 * (Int.toNat v0)) = I 236 (184 + 6 * (Int.toNat v1)) ∧ I 236 (185 + 6 * (Int.toNat v0)) = I 236 (185 + 6 * (Int.toNat v1)) ∧ I 236 (189 + 6 * (Int.toNat v0)) < 0) → 1 = -1000003) ∧ ((v0 < v1 ∧ I 236 (184 + 6 * (Int.toNat v0)) = I 236 (184 + 6 * (Int.toNat v1)) ∧ I 236 (185 + 6 * (Int.toNat v0)) = I 236 (185 + 6 * (Int.toNat v1)) ∧ I 236 (189 + 6 * (Int.toNat v0)) < 0) → 1 = 1))) ∧ (1 < 0 → ∀ j : Nat, j < 20 → (uI I 236 (Int.toNat (wr ((wr (184 + (wr (6 * v0)))) + 5))) v1) 236 (189 + 6 * j) = I 236 (189 + 6 * j)) ∧ (0 ≤ 1 → ∀ j : Nat, j < 20 → ((j : Int) = v0 → (uI I 236 (Int.toNat (wr ((wr (184 + (wr (6 * v0)))) + 5))) v1) 236 (189 + 6 * j) = v1) ∧ (¬ (j : Int) = v0 → (uI I 236 (Int.toNat (wr ((wr (184 + (wr (6 * v0)))) + 5))) v1) 236 (189 + 6 * j) = I 236 (189 + 6 * j))) from by
                              refine ⟨⟨fun z => ?_, fun z => ⟨fun b => ?_, fun b => ?_⟩⟩, ?_, ?_⟩
                              any_goals first | rfl | omega | (exfalso; omega)
                              all_goals exact fun _ j hj => ⟨fun e => uJ_eqj (show (189 + 6 * j) = (Int.toNat (wr ((wr (184 + (wr (6 * v0)))) + 5))) from by omega), fun e => uJ_ne (show ¬ (189 + 6 * j) = (Int.toNat (wr ((wr (184 + (wr (6 * v0)))) + 5))) from by omega)⟩)⟩
            ·
              refine ⟨⟨_, rfl, (by decide)⟩, ?_⟩
              refine s_X12_finding hF (v := (-1000003)) (by decide) ?_
              exact ⟨rfl, fun hv hA' => hQ _ _ (Rg.u hR (Pr_f rfl)) hA' (hv _ rfl) (fun ka ja hk => (uI_o (show ¬ (ka = 238 ∧ ja = 3) from by first | (intro e; obtain ⟨rfl, rfl⟩ := e; exact hk (by decide)) | omega))) (show ((¬ ((0 ≤ v0 ∧ v0 < I 236 1) ∧ 0 ≤ v1 ∧ v1 < I 236 1) → (-1000003) = -1000001) ∧ (((0 ≤ v0 ∧ v0 < I 236 1) ∧ 0 ≤ v1 ∧ v1 < I 236 1) → (¬ (v0 < v1 ∧ I 236 (184 + 6 * (Int.toNat v0)) = I 236 (184 + 6 * (Int.toNat v1)) ∧ I 236 (185 + 6 * (Int.toNat v0)) = I 236 (185 + 6 * (Int.toNat v1)) ∧ I 236 (189 + 6 * (Int.toNat v0)) < 0) → (-1000003) = -1000003) ∧ ((v0 < v1 ∧ I 236 (184 + 6 * (Int.toNat v0)) = I 236 (184 + 6 * (Int.toNat v1)) ∧ I 236 (185 + 6 * (Int.toNat v0)) = I 236 (185 + 6 * (Int.toNat v1)) ∧ I 236 (189 + 6 * (Int.toNat v0)) < 0) → (-1000003) = 1))) ∧ ((-1000003) < 0 → ∀ j : Nat, j < 20 → (uI I 238 3 (wr ((I 238 3) + 1))) 236 (189 + 6 * j) = I 236 (189 + 6 * j)) ∧ (0 ≤ (-1000003) → ∀ j : Nat, j < 20 → ((j : Int) = v0 → (uI I 238 3 (wr ((I 238 3) + 1))) 236 (189 + 6 * j) = v1) ∧ (¬ (j : Int) = v0 → (uI I 238 3 (wr ((I 238 3) + 1))) 236 (189 + 6 * j) = I 236 (189 + 6 * j))) from by
                              refine ⟨⟨fun z => ?_, fun z => ⟨fun b => ?_, fun b => ?_⟩⟩, ?_, ?_⟩
                              any_goals first | rfl | omega | (exfalso; omega)
                              all_goals exact fun _ j hj => uI_o (show ¬ (236 = 238 ∧ (189 + 6 * j) = 3) from fun e => absurd e.1 (Nat.ne_of_beq_eq_false rfl)))⟩
    ·
      refine ⟨fun c => absurd (show ((0 : Int) = 0) from by decide) c, fun _ => ?_⟩
      refine ⟨⟨_, rfl, (by decide)⟩, ?_⟩
      refine s_X12_finding hF (v := (-1000001)) (by decide) ?_
      exact ⟨rfl, fun hv hA' => hQ _ _ (Rg.u hR (Pr_f rfl)) hA' (hv _ rfl) (fun ka ja hk => (uI_o (show ¬ (ka = 238 ∧ ja = 1) from by first | (intro e; obtain ⟨rfl, rfl⟩ := e; exact hk (by decide)) | omega))) (show ((¬ ((0 ≤ v0 ∧ v0 < I 236 1) ∧ 0 ≤ v1 ∧ v1 < I 236 1) → (-1000001) = -1000001) ∧ (((0 ≤ v0 ∧ v0 < I 236 1) ∧ 0 ≤ v1 ∧ v1 < I 236 1) → (¬ (v0 < v1 ∧ I 236 (184 + 6 * (Int.toNat v0)) = I 236 (184 + 6 * (Int.toNat v1)) ∧ I 236 (185 + 6 * (Int.toNat v0)) = I 236 (185 + 6 * (Int.toNat v1)) ∧ I 236 (189 + 6 * (Int.toNat v0)) < 0) → (-1000001) = -1000003) ∧ ((v0 < v1 ∧ I 236 (184 + 6 * (Int.toNat v0)) = I 236 (184 + 6 * (Int.toNat v1)) ∧ I 236 (185 + 6 * (Int.toNat v0)) = I 236 (185 + 6 * (Int.toNat v1)) ∧ I 236 (189 + 6 * (Int.toNat v0)) < 0) → (-1000001) = 1))) ∧ ((-1000001) < 0 → ∀ j : Nat, j < 20 → (uI I 238 1 (wr ((I 238 1) + 1))) 236 (189 + 6 * j) = I 236 (189 + 6 * j)) ∧ (0 ≤ (-1000001) → ∀ j : Nat, j < 20 → ((j : Int) = v0 → (uI I 238 1 (wr ((I 238 1) + 1))) 236 (189 + 6 * j) = v1) ∧ (¬ (j : Int) = v0 → (uI I 238 1 (wr ((I 238 1) + 1))) 236 (189 + 6 * j) = I 236 (189 + 6 * j))) from by
                              refine ⟨⟨fun z => ?_, fun z => ⟨fun b => ?_, fun b => ?_⟩⟩, ?_, ?_⟩
                              any_goals first | rfl | omega | (exfalso; omega)
                              all_goals exact fun _ j hj => uI_o (show ¬ (236 = 238 ∧ (189 + 6 * j) = 1) from fun e => absurd e.1 (Nat.ne_of_beq_eq_false rfl)))⟩
  ·
    refine ⟨fun _ => ?_, fun c => absurd (show ((0 : Int) = 0) from by decide) c⟩
    refine ⟨⟨_, rfl, (by decide)⟩, ?_⟩
    refine s_X12_finding hF (v := (-1000001)) (by decide) ?_
    exact ⟨rfl, fun hv hA' => hQ _ _ (Rg.u hR (Pr_f rfl)) hA' (hv _ rfl) (fun ka ja hk => (uI_o (show ¬ (ka = 238 ∧ ja = 1) from by first | (intro e; obtain ⟨rfl, rfl⟩ := e; exact hk (by decide)) | omega))) (show ((¬ ((0 ≤ v0 ∧ v0 < I 236 1) ∧ 0 ≤ v1 ∧ v1 < I 236 1) → (-1000001) = -1000001) ∧ (((0 ≤ v0 ∧ v0 < I 236 1) ∧ 0 ≤ v1 ∧ v1 < I 236 1) → (¬ (v0 < v1 ∧ I 236 (184 + 6 * (Int.toNat v0)) = I 236 (184 + 6 * (Int.toNat v1)) ∧ I 236 (185 + 6 * (Int.toNat v0)) = I 236 (185 + 6 * (Int.toNat v1)) ∧ I 236 (189 + 6 * (Int.toNat v0)) < 0) → (-1000001) = -1000003) ∧ ((v0 < v1 ∧ I 236 (184 + 6 * (Int.toNat v0)) = I 236 (184 + 6 * (Int.toNat v1)) ∧ I 236 (185 + 6 * (Int.toNat v0)) = I 236 (185 + 6 * (Int.toNat v1)) ∧ I 236 (189 + 6 * (Int.toNat v0)) < 0) → (-1000001) = 1))) ∧ ((-1000001) < 0 → ∀ j : Nat, j < 20 → (uI I 238 1 (wr ((I 238 1) + 1))) 236 (189 + 6 * j) = I 236 (189 + 6 * j)) ∧ (0 ≤ (-1000001) → ∀ j : Nat, j < 20 → ((j : Int) = v0 → (uI I 238 1 (wr ((I 238 1) + 1))) 236 (189 + 6 * j) = v1) ∧ (¬ (j : Int) = v0 → (uI I 238 1 (wr ((I 238 1) + 1))) 236 (189 + 6 * j) = I 236 (189 + 6 * j))) from by
                              refine ⟨⟨fun z => ?_, fun z => ⟨fun b => ?_, fun b => ?_⟩⟩, ?_, ?_⟩
                              any_goals first | rfl | omega | (exfalso; omega)
                              all_goals exact fun _ j hj => uI_o (show ¬ (236 = 238 ∧ (189 + 6 * j) = 1) from fun e => absurd e.1 (Nat.ne_of_beq_eq_false rfl)))⟩
end BO11
