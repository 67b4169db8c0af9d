/-! runs of the reference, from any state. Own work (scripts laid by wip/pm/gen30.py). -/
section RN
variable {G : pG} {d : Nat} {F : pF} {I : pI} {Q : Option pV → pF → pI → Prop}
theorem r_tick (hF : FS F) (hR : Rg I) (ht : I 235 16 ≤ 19999999) (hQ : ∀ (I' : pI), Rg I' → AR I' → (∀ k j, ¬ ((k = 235 ∧ (j = 13 ∨ j = 15 ∨ j = 16)) ∨ k = 242) → I' k j = I k j) → ((I' 235 16) = (I 235 16) + 1) → Q none F I') : CallN G (d + 4) kX12_tick [vr 235] NP F I Q := by
  refine CallN_in (fun hok hA => CallN_out ?_)
  refine Call_wp (lv := [some (vr 235)]) (by decide) ckX12_tick [] rfl rfl ?_
  refine ⟨_, rfl, (by decide), ?_⟩
  have r1 : 0 ≤ (I 235 16) ∧ (I 235 16) ≤ 20000000 := Rg.f16 hR
  refine ⟨_, rfl, (by decide), ?_⟩
  have n3 : (wr ((I 235 16) + 1)) = (I 235 16) + 1 := wr_id (show -2147483648 ≤ ((I 235 16) + 1 : Int) ∧ ((I 235 16) + 1 : Int) < 2147483648 from by omega)
  have p4 : (0 : Int) ≤ (wr ((I 235 16) + 1)) ∧ ((wr ((I 235 16) + 1)) : Int) ≤ 20000000 := by first | omega | (simp only [wr, wl] at *; omega)
  refine ⟨_, rfl, (by decide), ?_⟩
  have a5 : -2147483648 ≤ (I 235 13) ∧ (I 235 13) < 2147483648 := hA.1 _ _
  refine ⟨fun (c6 : (¬ ((I 235 13) : Int) = 0)) => ?_, fun (c6 : (((I 235 13) : Int) = 0)) => ?_⟩
  ·
    refine ⟨_, rfl, (by decide), (by decide), ?_⟩
    refine ⟨_, rfl, (by decide), ?_⟩
    refine fun w0 hw0 => ?_; obtain rfl : w0 = some 242 := hw0.symm.trans (FS.g hF rfl)
    refine ⟨_, rfl, (by decide), ?_⟩
    refine ⟨(by decide), ?_⟩
    refine ⟨⟨_, rfl, (by decide)⟩, ?_⟩
    refine Call_wp (lv := [some (vr 235)]) (by decide) ckX12_loadNow [] rfl rfl ?_
    refine ⟨_, rfl, (by decide), ?_⟩
    refine ⟨fun c => absurd c (show (¬ ((1 : Int) = 0)) from by decide), fun _ => ?_⟩
    refine ⟨rfl, ?_⟩
    have n7 : (Int.tmod (wr ((I 235 16) + 1)) 8) = ((wr ((I 235 16) + 1)) : Int) % 8 := Int.tmod_eq_emod_of_nonneg (by omega)
    refine ⟨_, rfl, (by decide), (show (0 : Int) ≤ (Int.tmod (wr ((I 235 16) + 1)) 8) from by first | with_reducible assumption | omega | (simp only [wr, wl] at *; omega)), (show (Int.tmod (wr ((I 235 16) + 1)) 8) < (8 : Int) from by first | with_reducible assumption | omega | (simp only [wr, wl] at *; omega)), ?_⟩
    refine ⟨_, rfl, (by decide), ?_⟩
    have a8 : -2147483648 ≤ (I 235 14) ∧ (I 235 14) < 2147483648 := hA.1 _ _
    refine ⟨fun (c9 : (¬ ((I 235 14) : Int) = 0)) => ?_, fun (c9 : (((I 235 14) : Int) = 0)) => ?_⟩
    ·
      exact ⟨rfl, fun hv hA' => hQ _ (Rg.u (Rg.u (Rg.u hR (Pr_x16 p4)) (Pr_f rfl)) (Pr_p (k := 242) rfl _ _)) hA' (fun ka ja hk => ((uI_o (show ¬ (ka = 242 ∧ ja = (Int.toNat (Int.tmod (wr ((I 235 16) + 1)) 8))) from by omega))).trans (((uI_o (show ¬ (ka = 235 ∧ ja = 13) from by first | (intro e; obtain ⟨rfl, rfl⟩ := e; exact hk (by decide)) | omega))).trans ((uI_o (show ¬ (ka = 235 ∧ ja = 16) from by first | (intro e; obtain ⟨rfl, rfl⟩ := e; exact hk (by decide)) | omega))))) (show (wr ((I 235 16) + 1)) = (I 235 16) + 1 from by first | omega | (simp only [wr, wl] at *; omega))⟩
    ·
      refine ⟨_, rfl, (by decide), ?_⟩
      refine ⟨fun c => absurd c (show (¬ ((1 : Int) = 0)) from by decide), fun _ => ?_⟩
      refine ⟨_, rfl, (by decide), ?_⟩
      exact ⟨rfl, fun hv hA' => hQ _ (Rg.u (Rg.u (Rg.u (Rg.u hR (Pr_x16 p4)) (Pr_f rfl)) (Pr_p (k := 242) rfl _ _)) (Pr_f rfl)) hA' (fun ka ja hk => ((uI_o (show ¬ (ka = 235 ∧ ja = 15) from by first | (intro e; obtain ⟨rfl, rfl⟩ := e; exact hk (by decide)) | omega))).trans (((uI_o (show ¬ (ka = 242 ∧ ja = (Int.toNat (Int.tmod (wr ((I 235 16) + 1)) 8))) from by omega))).trans (((uI_o (show ¬ (ka = 235 ∧ ja = 13) from by first | (intro e; obtain ⟨rfl, rfl⟩ := e; exact hk (by decide)) | omega))).trans ((uI_o (show ¬ (ka = 235 ∧ ja = 16) from by first | (intro e; obtain ⟨rfl, rfl⟩ := e; exact hk (by decide)) | omega)))))) (show (wr ((I 235 16) + 1)) = (I 235 16) + 1 from by first | omega | (simp only [wr, wl] at *; omega))⟩
  ·
    refine ⟨_, rfl, (by decide), ?_⟩
    have r10 : 0 ≤ (I 235 12) ∧ (I 235 12) ≤ 20000000 := Rg.f12 hR
    refine ⟨_, rfl, (by decide), ?_⟩
    have r11 : 0 ≤ (I 235 11) ∧ (I 235 11) ≤ 13 := Rg.f11 hR
    refine ⟨⟨_, rfl, (by decide)⟩, ?_⟩
    refine Call_wp (lv := [some (vr 235), some (vi (I 235 11))]) (by decide) ckX12_end [] rfl rfl ?_
    refine ⟨⟨_, rfl, (by decide)⟩, ?_⟩
    refine r_of (p := (I 235 11)) (f := 3) hF (j := (Int.toNat (307 + 66 * (I 235 11)))) (by omega) (by omega) (by omega) (fun w13 hw14 => ?_)
    have r15 : 0 ≤ (I 236 (Int.toNat (307 + 66 * (I 235 11)))) ∧ (I 236 (Int.toNat (307 + 66 * (I 235 11)))) ≤ 12 := Pn_p3 (p := (Int.toNat (I 235 11))) (by omega) (by omega) (hR.n (Int.toNat (307 + 66 * (I 235 11))) (by omega))
    have hw14 : w13 = (I 236 (Int.toNat (307 + 66 * (I 235 11)))) := hw14
    refine ⟨rfl, ?_⟩
    have n18 : (wr (w13 - 1)) = w13 - 1 := wr_id (show -2147483648 ≤ (w13 - 1 : Int) ∧ (w13 - 1 : Int) < 2147483648 from by omega)
    have n19 : (wr (10 * (wr (w13 - 1)))) = 10 * (wr (w13 - 1)) := wr_id (show -2147483648 ≤ (10 * (wr (w13 - 1)) : Int) ∧ (10 * (wr (w13 - 1)) : Int) < 2147483648 from by omega)
    refine ⟨fun (c20 : (((I 235 12) : Int) ≤ (wr (10 * (wr (w13 - 1)))))) => ?_, fun (c20 : (¬ (((I 235 12) : Int) ≤ (wr (10 * (wr (w13 - 1))))))) => ?_⟩
    ·
      refine ⟨_, rfl, (by decide), (by decide), ?_⟩
      refine ⟨_, rfl, (by decide), ?_⟩
      refine fun w0 hw0 => ?_; obtain rfl : w0 = some 242 := hw0.symm.trans (FS.g hF rfl)
      refine ⟨_, rfl, (by decide), ?_⟩
      refine ⟨(by decide), ?_⟩
      refine ⟨⟨_, rfl, (by decide)⟩, ?_⟩
      refine Call_wp (lv := [some (vr 235)]) (by decide) ckX12_loadNow [] rfl rfl ?_
      refine ⟨_, rfl, (by decide), ?_⟩
      refine ⟨fun _ => ?_, fun c => absurd (show ((0 : Int) = 0) from by decide) c⟩
      refine ⟨_, rfl, (by decide), ?_⟩
      refine ⟨_, rfl, (by decide), ?_⟩
      refine ⟨⟨_, rfl, (by decide)⟩, ?_⟩
      refine r_answered (v0 := (I 235 11)) (v1 := (I 235 12)) hF (Rg.u (Rg.u hR (Pr_x16 p4)) (Pr_f rfl)) (by omega) (by omega) (fun vr21 hr22 => ?_)
      have hr22 : -2147483648 ≤ vr21 ∧ vr21 < 2147483648 := hr22
      refine ⟨rfl, ?_⟩
      have n23 : (Int.tmod (wr ((I 235 16) + 1)) 8) = ((wr ((I 235 16) + 1)) : Int) % 8 := Int.tmod_eq_emod_of_nonneg (by omega)
      refine ⟨_, rfl, (by decide), (show (0 : Int) ≤ (Int.tmod (wr ((I 235 16) + 1)) 8) from by first | with_reducible assumption | omega | (simp only [wr, wl] at *; omega)), (show (Int.tmod (wr ((I 235 16) + 1)) 8) < (8 : Int) from by first | with_reducible assumption | omega | (simp only [wr, wl] at *; omega)), ?_⟩
      refine ⟨_, rfl, (by decide), ?_⟩
      have a24 : -2147483648 ≤ (I 235 14) ∧ (I 235 14) < 2147483648 := hA.1 _ _
      refine ⟨fun (c25 : (¬ ((I 235 14) : Int) = 0)) => ?_, fun (c25 : (((I 235 14) : Int) = 0)) => ?_⟩
      ·
        exact ⟨rfl, fun hv hA' => hQ _ (Rg.u (Rg.u (Rg.u hR (Pr_x16 p4)) (Pr_f rfl)) (Pr_p (k := 242) rfl _ _)) hA' (fun ka ja hk => ((uI_o (show ¬ (ka = 242 ∧ ja = (Int.toNat (Int.tmod (wr ((I 235 16) + 1)) 8))) from by omega))).trans (((uI_o (show ¬ (ka = 235 ∧ ja = 13) from by first | (intro e; obtain ⟨rfl, rfl⟩ := e; exact hk (by decide)) | omega))).trans ((uI_o (show ¬ (ka = 235 ∧ ja = 16) from by first | (intro e; obtain ⟨rfl, rfl⟩ := e; exact hk (by decide)) | omega))))) (show (wr ((I 235 16) + 1)) = (I 235 16) + 1 from by first | omega | (simp only [wr, wl] at *; omega))⟩
      ·
        refine ⟨_, rfl, (by decide), ?_⟩
        refine ⟨fun _ => ?_, fun c => absurd (show ((0 : Int) = 0) from by decide) c⟩
        refine ⟨⟨_, rfl, (by decide)⟩, ?_⟩
        refine Call_wp (lv := [some (vr 235)]) (by decide) ckX12_loadNow [] rfl rfl ?_
        refine ⟨_, rfl, (by decide), ?_⟩
        refine ⟨fun _ => ?_, fun c => absurd (show ((0 : Int) = 0) from by decide) c⟩
        refine ⟨_, rfl, (by decide), ?_⟩
        refine ⟨_, rfl, (by decide), ?_⟩
        refine ⟨⟨_, rfl, (by decide)⟩, ?_⟩
        refine r_answered (v0 := (I 235 11)) (v1 := (I 235 12)) hF (Rg.u (Rg.u (Rg.u hR (Pr_x16 p4)) (Pr_f rfl)) (Pr_p (k := 242) rfl _ _)) (by omega) (by omega) (fun vr26 hr27 => ?_)
        have hr27 : -2147483648 ≤ vr26 ∧ vr26 < 2147483648 := hr27
        refine ⟨rfl, ?_⟩
        refine ⟨_, rfl, (by decide), ?_⟩
        refine fun w0 hw0 => ?_; obtain rfl : w0 = some 236 := hw0.symm.trans (FS.g hF rfl)
        refine ⟨_, rfl, (by decide), (by decide), (by decide), ?_⟩
        have a28 : -2147483648 ≤ (I 236 4) ∧ (I 236 4) < 2147483648 := hA.1 _ _
        refine ⟨fun (c29 : ((vr26 : Int) ≤ (I 236 4))) => ?_, fun (c29 : (¬ ((vr26 : Int) ≤ (I 236 4)))) => ?_⟩
        ·
          refine ⟨_, rfl, (by decide), ?_⟩
          refine ⟨_, rfl, (by decide), ?_⟩
          refine fun w0 hw0 => ?_; obtain rfl : w0 = some 236 := hw0.symm.trans (FS.g hF rfl)
          refine ⟨_, rfl, (by decide), (by decide), (by decide), ?_⟩
          have a30 : -2147483648 ≤ (I 236 5) ∧ (I 236 5) < 2147483648 := hA.1 _ _
          refine ⟨fun (c31 : (((I 235 12) : Int) ≤ (I 236 5))) => ?_, fun (c31 : (¬ (((I 235 12) : Int) ≤ (I 236 5)))) => ?_⟩
          ·
            refine ⟨_, rfl, (by decide), ?_⟩
            exact ⟨rfl, fun hv hA' => hQ _ (Rg.u (Rg.u (Rg.u (Rg.u hR (Pr_x16 p4)) (Pr_f rfl)) (Pr_p (k := 242) rfl _ _)) (Pr_f rfl)) hA' (fun ka ja hk => ((uI_o (show ¬ (ka = 235 ∧ ja = 15) from by first | (intro e; obtain ⟨rfl, rfl⟩ := e; exact hk (by decide)) | omega))).trans (((uI_o (show ¬ (ka = 242 ∧ ja = (Int.toNat (Int.tmod (wr ((I 235 16) + 1)) 8))) from by omega))).trans (((uI_o (show ¬ (ka = 235 ∧ ja = 13) from by first | (intro e; obtain ⟨rfl, rfl⟩ := e; exact hk (by decide)) | omega))).trans ((uI_o (show ¬ (ka = 235 ∧ ja = 16) from by first | (intro e; obtain ⟨rfl, rfl⟩ := e; exact hk (by decide)) | omega)))))) (show (wr ((I 235 16) + 1)) = (I 235 16) + 1 from by first | omega | (simp only [wr, wl] at *; omega))⟩
          ·
            refine ⟨_, rfl, (by decide), ?_⟩
            exact ⟨rfl, fun hv hA' => hQ _ (Rg.u (Rg.u (Rg.u (Rg.u hR (Pr_x16 p4)) (Pr_f rfl)) (Pr_p (k := 242) rfl _ _)) (Pr_f rfl)) hA' (fun ka ja hk => ((uI_o (show ¬ (ka = 235 ∧ ja = 15) from by first | (intro e; obtain ⟨rfl, rfl⟩ := e; exact hk (by decide)) | omega))).trans (((uI_o (show ¬ (ka = 242 ∧ ja = (Int.toNat (Int.tmod (wr ((I 235 16) + 1)) 8))) from by omega))).trans (((uI_o (show ¬ (ka = 235 ∧ ja = 13) from by first | (intro e; obtain ⟨rfl, rfl⟩ := e; exact hk (by decide)) | omega))).trans ((uI_o (show ¬ (ka = 235 ∧ ja = 16) from by first | (intro e; obtain ⟨rfl, rfl⟩ := e; exact hk (by decide)) | omega)))))) (show (wr ((I 235 16) + 1)) = (I 235 16) + 1 from by first | omega | (simp only [wr, wl] at *; omega))⟩
        ·
          refine ⟨_, rfl, (by decide), ?_⟩
          exact ⟨rfl, fun hv hA' => hQ _ (Rg.u (Rg.u (Rg.u (Rg.u hR (Pr_x16 p4)) (Pr_f rfl)) (Pr_p (k := 242) rfl _ _)) (Pr_f rfl)) hA' (fun ka ja hk => ((uI_o (show ¬ (ka = 235 ∧ ja = 15) from by first | (intro e; obtain ⟨rfl, rfl⟩ := e; exact hk (by decide)) | omega))).trans (((uI_o (show ¬ (ka = 242 ∧ ja = (Int.toNat (Int.tmod (wr ((I 235 16) + 1)) 8))) from by omega))).trans (((uI_o (show ¬ (ka = 235 ∧ ja = 13) from by first | (intro e; obtain ⟨rfl, rfl⟩ := e; exact hk (by decide)) | omega))).trans ((uI_o (show ¬ (ka = 235 ∧ ja = 16) from by first | (intro e; obtain ⟨rfl, rfl⟩ := e; exact hk (by decide)) | omega)))))) (show (wr ((I 235 16) + 1)) = (I 235 16) + 1 from by first | omega | (simp only [wr, wl] at *; omega))⟩
    ·
      refine ⟨_, rfl, (by decide), (by decide), ?_⟩
      refine ⟨_, rfl, (by decide), ?_⟩
      refine fun w0 hw0 => ?_; obtain rfl : w0 = some 242 := hw0.symm.trans (FS.g hF rfl)
      refine ⟨_, rfl, (by decide), ?_⟩
      refine ⟨(by decide), ?_⟩
      refine ⟨⟨_, rfl, (by decide)⟩, ?_⟩
      refine Call_wp (lv := [some (vr 235)]) (by decide) ckX12_loadNow [] rfl rfl ?_
      refine ⟨_, rfl, (by decide), ?_⟩
      refine ⟨fun c => absurd c (show (¬ ((1 : Int) = 0)) from by decide), fun _ => ?_⟩
      refine ⟨rfl, ?_⟩
      have n32 : (Int.tmod (wr ((I 235 16) + 1)) 8) = ((wr ((I 235 16) + 1)) : Int) % 8 := Int.tmod_eq_emod_of_nonneg (by omega)
      refine ⟨_, rfl, (by decide), (show (0 : Int) ≤ (Int.tmod (wr ((I 235 16) + 1)) 8) from by first | with_reducible assumption | omega | (simp only [wr, wl] at *; omega)), (show (Int.tmod (wr ((I 235 16) + 1)) 8) < (8 : Int) from by first | with_reducible assumption | omega | (simp only [wr, wl] at *; omega)), ?_⟩
      refine ⟨_, rfl, (by decide), ?_⟩
      have a33 : -2147483648 ≤ (I 235 14) ∧ (I 235 14) < 2147483648 := hA.1 _ _
      refine ⟨fun (c34 : (¬ ((I 235 14) : Int) = 0)) => ?_, fun (c34 : (((I 235 14) : Int) = 0)) => ?_⟩
      ·
        exact ⟨rfl, fun hv hA' => hQ _ (Rg.u (Rg.u (Rg.u hR (Pr_x16 p4)) (Pr_f rfl)) (Pr_p (k := 242) rfl _ _)) hA' (fun ka ja hk => ((uI_o (show ¬ (ka = 242 ∧ ja = (Int.toNat (Int.tmod (wr ((I 235 16) + 1)) 8))) from by omega))).trans (((uI_o (show ¬ (ka = 235 ∧ ja = 13) from by first | (intro e; obtain ⟨rfl, rfl⟩ := e; exact hk (by decide)) | omega))).trans ((uI_o (show ¬ (ka = 235 ∧ ja = 16) from by first | (intro e; obtain ⟨rfl, rfl⟩ := e; exact hk (by decide)) | omega))))) (show (wr ((I 235 16) + 1)) = (I 235 16) + 1 from by first | omega | (simp only [wr, wl] at *; omega))⟩
      ·
        refine ⟨_, rfl, (by decide), ?_⟩
        refine ⟨fun c => absurd c (show (¬ ((1 : Int) = 0)) from by decide), fun _ => ?_⟩
        refine ⟨_, rfl, (by decide), ?_⟩
        exact ⟨rfl, fun hv hA' => hQ _ (Rg.u (Rg.u (Rg.u (Rg.u hR (Pr_x16 p4)) (Pr_f rfl)) (Pr_p (k := 242) rfl _ _)) (Pr_f rfl)) hA' (fun ka ja hk => ((uI_o (show ¬ (ka = 235 ∧ ja = 15) from by first | (intro e; obtain ⟨rfl, rfl⟩ := e; exact hk (by decide)) | omega))).trans (((uI_o (show ¬ (ka = 242 ∧ ja = (Int.toNat (Int.tmod (wr ((I 235 16) + 1)) 8))) from by omega))).trans (((uI_o (show ¬ (ka = 235 ∧ ja = 13) from by first | (intro e; obtain ⟨rfl, rfl⟩ := e; exact hk (by decide)) | omega))).trans ((uI_o (show ¬ (ka = 235 ∧ ja = 16) from by first | (intro e; obtain ⟨rfl, rfl⟩ := e; exact hk (by decide)) | omega)))))) (show (wr ((I 235 16) + 1)) = (I 235 16) + 1 from by first | omega | (simp only [wr, wl] at *; omega))⟩
theorem r_take (hF : FS F) (hR : Rg I)  (hQ : ∀ (I' : pI), Rg I' → AR I' → (∀ k j, ¬ ((k = 235 ∧ (j = 18)) ∨ k = 243 ∨ k = 244) → I' k j = I k j) → Q none F I') : CallN G (d + 4) kX12_takeReading [vr 235] NP F I Q := by
  refine CallN_in (fun hok hA => CallN_out ?_)
  refine Call_wp (lv := [some (vr 235), none, none, none]) (by decide) ckX12_takeReading [] rfl rfl ?_
  refine ⟨_, rfl, (by decide), ?_⟩
  have r1 : 0 ≤ (I 235 18) ∧ (I 235 18) ≤ 24 := Rg.f18 hR
  refine ⟨fun (c3 : (¬ ((I 235 18) : Int) = 24)) => ?_, fun (c3 : (((I 235 18) : Int) = 24)) => ?_⟩
  ·
    refine ⟨_, rfl, (by decide), ?_⟩
    have r4 : 0 ≤ (I 235 16) ∧ (I 235 16) ≤ 20000000 := Rg.f16 hR
    refine ⟨_, rfl, (by decide), ?_⟩
    refine fun w0 hw0 => ?_; obtain rfl : w0 = some 236 := hw0.symm.trans (FS.g hF rfl)
    refine ⟨_, rfl, (by decide), (by decide), (by decide), ?_⟩
    have r5 : 0 ≤ (I 236 8) ∧ (I 236 8) ≤ 5 := Rg.n8 hR
    refine ⟨_, rfl, (by decide), ?_⟩
    refine fun w0 hw0 => ?_; obtain rfl : w0 = some 236 := hw0.symm.trans (FS.g hF rfl)
    refine ⟨_, rfl, (by decide), (by decide), (by decide), ?_⟩
    refine ⟨fun (c7 : (¬ ((I 236 8) : Int) = 0)) => ?_, fun (c7 : (((I 236 8) : Int) = 0)) => ?_⟩
    ·
      have n9 : (wr ((I 235 16) + 1)) = (I 235 16) + 1 := wr_id (show -2147483648 ≤ ((I 235 16) + 1 : Int) ∧ ((I 235 16) + 1 : Int) < 2147483648 from by omega)
      have n10 : (wr ((wr ((I 235 16) + 1)) - (I 236 8))) = (wr ((I 235 16) + 1)) - (I 236 8) := wr_id (show -2147483648 ≤ ((wr ((I 235 16) + 1)) - (I 236 8) : Int) ∧ ((wr ((I 235 16) + 1)) - (I 236 8) : Int) < 2147483648 from by omega)
      refine ⟨fun (c11 : ((1 : Int) ≤ (wr ((wr ((I 235 16) + 1)) - (I 236 8))))) => ?_, fun (c11 : (¬ ((1 : Int) ≤ (wr ((wr ((I 235 16) + 1)) - (I 236 8)))))) => ?_⟩
      ·
        refine ⟨_, rfl, (by decide), ?_⟩
        refine fun w0 hw0 => ?_; obtain rfl : w0 = some 242 := hw0.symm.trans (FS.g hF rfl)
        refine ⟨(by decide), ?_⟩
        have n12 : (Int.tmod (wr ((wr ((I 235 16) + 1)) - (I 236 8))) 8) = ((wr ((wr ((I 235 16) + 1)) - (I 236 8))) : Int) % 8 := Int.tmod_eq_emod_of_nonneg (by omega)
        refine ⟨_, rfl, (by decide), (show (0 : Int) ≤ (Int.tmod (wr ((wr ((I 235 16) + 1)) - (I 236 8))) 8) from by first | with_reducible assumption | omega | (simp only [wr, wl] at *; omega)), (show (Int.tmod (wr ((wr ((I 235 16) + 1)) - (I 236 8))) 8) < (8 : Int) from by first | with_reducible assumption | omega | (simp only [wr, wl] at *; omega)), ?_⟩
        refine ⟨_, rfl, (by decide), ?_⟩
        refine fun w0 hw0 => ?_; obtain rfl : w0 = some 236 := hw0.symm.trans (FS.g hF rfl)
        refine ⟨_, rfl, (by decide), (by decide), (by decide), ?_⟩
        have r13 : 0 ≤ (I 236 7) ∧ (I 236 7) ≤ 24 := Rg.n7 hR
        refine ⟨fun (c15 : (((I 236 7) : Int) ≤ 0)) => ?_, fun (c15 : (¬ (((I 236 7) : Int) ≤ 0))) => ?_⟩
        ·
          refine ⟨_, rfl, (by decide), ?_⟩
          refine fun w0 hw0 => ?_; obtain rfl : w0 = some 243 := hw0.symm.trans (FS.g hF rfl)
          refine ⟨_, rfl, (by decide), ?_⟩
          refine ⟨_, rfl, (by decide), ?_⟩
          have r16 : 0 ≤ (I 235 12) ∧ (I 235 12) ≤ 20000000 := Rg.f12 hR
          refine ⟨_, rfl, (by decide), (show (0 : Int) ≤ (I 235 18) from by first | with_reducible assumption | omega | (simp only [wr, wl] at *; omega)), (show (I 235 18) < (24 : Int) from by first | with_reducible assumption | omega | (simp only [wr, wl] at *; omega)), ?_⟩
          refine ⟨_, rfl, (by decide), ?_⟩
          refine fun w0 hw0 => ?_; obtain rfl : w0 = some 244 := hw0.symm.trans (FS.g hF rfl)
          refine ⟨_, rfl, (by decide), ?_⟩
          refine ⟨fun _ => ?_, fun c => absurd (show ((0 : Int) = 0) from by decide) c⟩
          refine ⟨_, rfl, (by decide), ?_⟩
          refine fun w0 hw0 => ?_; obtain rfl : w0 = some 236 := hw0.symm.trans (FS.g hF rfl)
          refine ⟨_, rfl, (by decide), (by decide), (by decide), ?_⟩
          have a17 : -2147483648 ≤ (I 242 (Int.toNat (Int.tmod (wr ((wr ((I 235 16) + 1)) - (I 236 8))) 8))) ∧ (I 242 (Int.toNat (Int.tmod (wr ((wr ((I 235 16) + 1)) - (I 236 8))) 8))) < 2147483648 := hA.1 _ _
          have a18 : -2147483648 ≤ (I 236 6) ∧ (I 236 6) < 2147483648 := hA.1 _ _
          refine ⟨fun (c19 : (((I 242 (Int.toNat (Int.tmod (wr ((wr ((I 235 16) + 1)) - (I 236 8))) 8))) : Int) ≤ (I 236 6))) => ?_, fun (c19 : (¬ (((I 242 (Int.toNat (Int.tmod (wr ((wr ((I 235 16) + 1)) - (I 236 8))) 8))) : Int) ≤ (I 236 6)))) => ?_⟩
          ·
            refine ⟨_, rfl, (by decide), (show (0 : Int) ≤ (I 235 18) from by first | with_reducible assumption | omega | (simp only [wr, wl] at *; omega)), (show (I 235 18) < (24 : Int) from by first | with_reducible assumption | omega | (simp only [wr, wl] at *; omega)), ?_⟩
            refine ⟨_, rfl, (by decide), ?_⟩
            refine ⟨_, rfl, (by decide), ?_⟩
            have n20 : (wr ((I 235 18) + 1)) = (I 235 18) + 1 := wr_id (show -2147483648 ≤ ((I 235 18) + 1 : Int) ∧ ((I 235 18) + 1 : Int) < 2147483648 from by omega)
            have p21 : (0 : Int) ≤ (wr ((I 235 18) + 1)) ∧ ((wr ((I 235 18) + 1)) : Int) ≤ 24 := by first | omega | (simp only [wr, wl] at *; omega)
            exact ⟨rfl, fun hv hA' => hQ _ (Rg.u (Rg.u (Rg.u hR (Pr_p (k := 243) rfl _ _)) (Pr_p (k := 244) rfl _ _)) (Pr_x18 p21)) hA' (fun ka ja hk => ((uI_o (show ¬ (ka = 235 ∧ ja = 18) from by first | (intro e; obtain ⟨rfl, rfl⟩ := e; exact hk (by decide)) | omega))).trans (((uI_o (show ¬ (ka = 244 ∧ ja = (Int.toNat (I 235 18))) from by first | (intro e; obtain ⟨rfl, _⟩ := e; exact hk (by decide)) | omega))).trans ((uI_o (show ¬ (ka = 243 ∧ ja = (Int.toNat (I 235 18))) from by first | (intro e; obtain ⟨rfl, _⟩ := e; exact hk (by decide)) | omega)))))⟩
          ·
            refine ⟨_, rfl, (by decide), (show (0 : Int) ≤ (I 235 18) from by first | with_reducible assumption | omega | (simp only [wr, wl] at *; omega)), (show (I 235 18) < (24 : Int) from by first | with_reducible assumption | omega | (simp only [wr, wl] at *; omega)), ?_⟩
            refine ⟨_, rfl, (by decide), ?_⟩
            refine ⟨_, rfl, (by decide), ?_⟩
            have n22 : (wr ((I 235 18) + 1)) = (I 235 18) + 1 := wr_id (show -2147483648 ≤ ((I 235 18) + 1 : Int) ∧ ((I 235 18) + 1 : Int) < 2147483648 from by omega)
            have p23 : (0 : Int) ≤ (wr ((I 235 18) + 1)) ∧ ((wr ((I 235 18) + 1)) : Int) ≤ 24 := by first | omega | (simp only [wr, wl] at *; omega)
            exact ⟨rfl, fun hv hA' => hQ _ (Rg.u (Rg.u (Rg.u hR (Pr_p (k := 243) rfl _ _)) (Pr_p (k := 244) rfl _ _)) (Pr_x18 p23)) hA' (fun ka ja hk => ((uI_o (show ¬ (ka = 235 ∧ ja = 18) from by first | (intro e; obtain ⟨rfl, rfl⟩ := e; exact hk (by decide)) | omega))).trans (((uI_o (show ¬ (ka = 244 ∧ ja = (Int.toNat (I 235 18))) from by first | (intro e; obtain ⟨rfl, _⟩ := e; exact hk (by decide)) | omega))).trans ((uI_o (show ¬ (ka = 243 ∧ ja = (Int.toNat (I 235 18))) from by first | (intro e; obtain ⟨rfl, _⟩ := e; exact hk (by decide)) | omega)))))⟩
        ·
          refine ⟨_, rfl, (by decide), ?_⟩
          refine ⟨_, rfl, (by decide), ?_⟩
          refine fun w0 hw0 => ?_; obtain rfl : w0 = some 236 := hw0.symm.trans (FS.g hF rfl)
          refine ⟨_, rfl, (by decide), (by decide), (by decide), ?_⟩
          refine ⟨(show ¬ ((I 236 7) : Int) = 0 from by first | omega | (simp only [wr, wl] at *; omega)), ?_⟩
          refine ⟨fun (c24 : (¬ ((Int.tmod (wr ((I 235 18) + 1)) (I 236 7)) : Int) = 0)) => ?_, fun (c24 : (((Int.tmod (wr ((I 235 18) + 1)) (I 236 7)) : Int) = 0)) => ?_⟩
          ·
            refine ⟨_, rfl, (by decide), ?_⟩
            refine fun w0 hw0 => ?_; obtain rfl : w0 = some 243 := hw0.symm.trans (FS.g hF rfl)
            refine ⟨_, rfl, (by decide), ?_⟩
            refine ⟨_, rfl, (by decide), ?_⟩
            have r25 : 0 ≤ (I 235 12) ∧ (I 235 12) ≤ 20000000 := Rg.f12 hR
            refine ⟨_, rfl, (by decide), (show (0 : Int) ≤ (I 235 18) from by first | with_reducible assumption | omega | (simp only [wr, wl] at *; omega)), (show (I 235 18) < (24 : Int) from by first | with_reducible assumption | omega | (simp only [wr, wl] at *; omega)), ?_⟩
            refine ⟨_, rfl, (by decide), ?_⟩
            refine fun w0 hw0 => ?_; obtain rfl : w0 = some 244 := hw0.symm.trans (FS.g hF rfl)
            refine ⟨_, rfl, (by decide), ?_⟩
            refine ⟨fun _ => ?_, fun c => absurd (show ((0 : Int) = 0) from by decide) c⟩
            refine ⟨_, rfl, (by decide), ?_⟩
            refine fun w0 hw0 => ?_; obtain rfl : w0 = some 236 := hw0.symm.trans (FS.g hF rfl)
            refine ⟨_, rfl, (by decide), (by decide), (by decide), ?_⟩
            have a26 : -2147483648 ≤ (I 242 (Int.toNat (Int.tmod (wr ((wr ((I 235 16) + 1)) - (I 236 8))) 8))) ∧ (I 242 (Int.toNat (Int.tmod (wr ((wr ((I 235 16) + 1)) - (I 236 8))) 8))) < 2147483648 := hA.1 _ _
            have a27 : -2147483648 ≤ (I 236 6) ∧ (I 236 6) < 2147483648 := hA.1 _ _
            refine ⟨fun (c28 : (((I 242 (Int.toNat (Int.tmod (wr ((wr ((I 235 16) + 1)) - (I 236 8))) 8))) : Int) ≤ (I 236 6))) => ?_, fun (c28 : (¬ (((I 242 (Int.toNat (Int.tmod (wr ((wr ((I 235 16) + 1)) - (I 236 8))) 8))) : Int) ≤ (I 236 6)))) => ?_⟩
            ·
              refine ⟨_, rfl, (by decide), (show (0 : Int) ≤ (I 235 18) from by first | with_reducible assumption | omega | (simp only [wr, wl] at *; omega)), (show (I 235 18) < (24 : Int) from by first | with_reducible assumption | omega | (simp only [wr, wl] at *; omega)), ?_⟩
              refine ⟨_, rfl, (by decide), ?_⟩
              refine ⟨_, rfl, (by decide), ?_⟩
              have n29 : (wr ((I 235 18) + 1)) = (I 235 18) + 1 := wr_id (show -2147483648 ≤ ((I 235 18) + 1 : Int) ∧ ((I 235 18) + 1 : Int) < 2147483648 from by omega)
              have p30 : (0 : Int) ≤ (wr ((I 235 18) + 1)) ∧ ((wr ((I 235 18) + 1)) : Int) ≤ 24 := by first | omega | (simp only [wr, wl] at *; omega)
              exact ⟨rfl, fun hv hA' => hQ _ (Rg.u (Rg.u (Rg.u hR (Pr_p (k := 243) rfl _ _)) (Pr_p (k := 244) rfl _ _)) (Pr_x18 p30)) hA' (fun ka ja hk => ((uI_o (show ¬ (ka = 235 ∧ ja = 18) from by first | (intro e; obtain ⟨rfl, rfl⟩ := e; exact hk (by decide)) | omega))).trans (((uI_o (show ¬ (ka = 244 ∧ ja = (Int.toNat (I 235 18))) from by first | (intro e; obtain ⟨rfl, _⟩ := e; exact hk (by decide)) | omega))).trans ((uI_o (show ¬ (ka = 243 ∧ ja = (Int.toNat (I 235 18))) from by first | (intro e; obtain ⟨rfl, _⟩ := e; exact hk (by decide)) | omega)))))⟩
            ·
              refine ⟨_, rfl, (by decide), (show (0 : Int) ≤ (I 235 18) from by first | with_reducible assumption | omega | (simp only [wr, wl] at *; omega)), (show (I 235 18) < (24 : Int) from by first | with_reducible assumption | omega | (simp only [wr, wl] at *; omega)), ?_⟩
              refine ⟨_, rfl, (by decide), ?_⟩
              refine ⟨_, rfl, (by decide), ?_⟩
              have n31 : (wr ((I 235 18) + 1)) = (I 235 18) + 1 := wr_id (show -2147483648 ≤ ((I 235 18) + 1 : Int) ∧ ((I 235 18) + 1 : Int) < 2147483648 from by omega)
              have p32 : (0 : Int) ≤ (wr ((I 235 18) + 1)) ∧ ((wr ((I 235 18) + 1)) : Int) ≤ 24 := by first | omega | (simp only [wr, wl] at *; omega)
              exact ⟨rfl, fun hv hA' => hQ _ (Rg.u (Rg.u (Rg.u hR (Pr_p (k := 243) rfl _ _)) (Pr_p (k := 244) rfl _ _)) (Pr_x18 p32)) hA' (fun ka ja hk => ((uI_o (show ¬ (ka = 235 ∧ ja = 18) from by first | (intro e; obtain ⟨rfl, rfl⟩ := e; exact hk (by decide)) | omega))).trans (((uI_o (show ¬ (ka = 244 ∧ ja = (Int.toNat (I 235 18))) from by first | (intro e; obtain ⟨rfl, _⟩ := e; exact hk (by decide)) | omega))).trans ((uI_o (show ¬ (ka = 243 ∧ ja = (Int.toNat (I 235 18))) from by first | (intro e; obtain ⟨rfl, _⟩ := e; exact hk (by decide)) | omega)))))⟩
          ·
            refine ⟨_, rfl, (by decide), ?_⟩
            refine fun w0 hw0 => ?_; obtain rfl : w0 = some 243 := hw0.symm.trans (FS.g hF rfl)
            refine ⟨_, rfl, (by decide), ?_⟩
            refine ⟨_, rfl, (by decide), ?_⟩
            have r33 : 0 ≤ (I 235 12) ∧ (I 235 12) ≤ 20000000 := Rg.f12 hR
            refine ⟨_, rfl, (by decide), (show (0 : Int) ≤ (I 235 18) from by first | with_reducible assumption | omega | (simp only [wr, wl] at *; omega)), (show (I 235 18) < (24 : Int) from by first | with_reducible assumption | omega | (simp only [wr, wl] at *; omega)), ?_⟩
            refine ⟨_, rfl, (by decide), ?_⟩
            refine fun w0 hw0 => ?_; obtain rfl : w0 = some 244 := hw0.symm.trans (FS.g hF rfl)
            refine ⟨_, rfl, (by decide), ?_⟩
            refine ⟨fun c => absurd c (show (¬ ((1 : Int) = 0)) from by decide), fun _ => ?_⟩
            refine ⟨_, rfl, (by decide), (show (0 : Int) ≤ (I 235 18) from by first | with_reducible assumption | omega | (simp only [wr, wl] at *; omega)), (show (I 235 18) < (24 : Int) from by first | with_reducible assumption | omega | (simp only [wr, wl] at *; omega)), ?_⟩
            refine ⟨_, rfl, (by decide), ?_⟩
            refine ⟨_, rfl, (by decide), ?_⟩
            have n34 : (wr ((I 235 18) + 1)) = (I 235 18) + 1 := wr_id (show -2147483648 ≤ ((I 235 18) + 1 : Int) ∧ ((I 235 18) + 1 : Int) < 2147483648 from by omega)
            have p35 : (0 : Int) ≤ (wr ((I 235 18) + 1)) ∧ ((wr ((I 235 18) + 1)) : Int) ≤ 24 := by first | omega | (simp only [wr, wl] at *; omega)
            exact ⟨rfl, fun hv hA' => hQ _ (Rg.u (Rg.u (Rg.u hR (Pr_p (k := 243) rfl _ _)) (Pr_p (k := 244) rfl _ _)) (Pr_x18 p35)) hA' (fun ka ja hk => ((uI_o (show ¬ (ka = 235 ∧ ja = 18) from by first | (intro e; obtain ⟨rfl, rfl⟩ := e; exact hk (by decide)) | omega))).trans (((uI_o (show ¬ (ka = 244 ∧ ja = (Int.toNat (I 235 18))) from by first | (intro e; obtain ⟨rfl, _⟩ := e; exact hk (by decide)) | omega))).trans ((uI_o (show ¬ (ka = 243 ∧ ja = (Int.toNat (I 235 18))) from by first | (intro e; obtain ⟨rfl, _⟩ := e; exact hk (by decide)) | omega)))))⟩
      ·
        refine ⟨_, rfl, (by decide), ?_⟩
        refine fun w0 hw0 => ?_; obtain rfl : w0 = some 236 := hw0.symm.trans (FS.g hF rfl)
        refine ⟨_, rfl, (by decide), (by decide), (by decide), ?_⟩
        have r36 : 0 ≤ (I 236 7) ∧ (I 236 7) ≤ 24 := Rg.n7 hR
        refine ⟨fun (c38 : (((I 236 7) : Int) ≤ 0)) => ?_, fun (c38 : (¬ (((I 236 7) : Int) ≤ 0))) => ?_⟩
        ·
          refine ⟨_, rfl, (by decide), ?_⟩
          refine fun w0 hw0 => ?_; obtain rfl : w0 = some 243 := hw0.symm.trans (FS.g hF rfl)
          refine ⟨_, rfl, (by decide), ?_⟩
          refine ⟨_, rfl, (by decide), ?_⟩
          have r39 : 0 ≤ (I 235 12) ∧ (I 235 12) ≤ 20000000 := Rg.f12 hR
          refine ⟨_, rfl, (by decide), (show (0 : Int) ≤ (I 235 18) from by first | with_reducible assumption | omega | (simp only [wr, wl] at *; omega)), (show (I 235 18) < (24 : Int) from by first | with_reducible assumption | omega | (simp only [wr, wl] at *; omega)), ?_⟩
          refine ⟨_, rfl, (by decide), ?_⟩
          refine fun w0 hw0 => ?_; obtain rfl : w0 = some 244 := hw0.symm.trans (FS.g hF rfl)
          refine ⟨_, rfl, (by decide), ?_⟩
          refine ⟨fun _ => ?_, fun c => absurd (show ((0 : Int) = 0) from by decide) c⟩
          refine ⟨_, rfl, (by decide), ?_⟩
          refine fun w0 hw0 => ?_; obtain rfl : w0 = some 236 := hw0.symm.trans (FS.g hF rfl)
          refine ⟨_, rfl, (by decide), (by decide), (by decide), ?_⟩
          have a40 : -2147483648 ≤ (I 236 6) ∧ (I 236 6) < 2147483648 := hA.1 _ _
          refine ⟨fun (c41 : ((0 : Int) ≤ (I 236 6))) => ?_, fun (c41 : (¬ ((0 : Int) ≤ (I 236 6)))) => ?_⟩
          ·
            refine ⟨_, rfl, (by decide), (show (0 : Int) ≤ (I 235 18) from by first | with_reducible assumption | omega | (simp only [wr, wl] at *; omega)), (show (I 235 18) < (24 : Int) from by first | with_reducible assumption | omega | (simp only [wr, wl] at *; omega)), ?_⟩
            refine ⟨_, rfl, (by decide), ?_⟩
            refine ⟨_, rfl, (by decide), ?_⟩
            have n42 : (wr ((I 235 18) + 1)) = (I 235 18) + 1 := wr_id (show -2147483648 ≤ ((I 235 18) + 1 : Int) ∧ ((I 235 18) + 1 : Int) < 2147483648 from by omega)
            have p43 : (0 : Int) ≤ (wr ((I 235 18) + 1)) ∧ ((wr ((I 235 18) + 1)) : Int) ≤ 24 := by first | omega | (simp only [wr, wl] at *; omega)
            exact ⟨rfl, fun hv hA' => hQ _ (Rg.u (Rg.u (Rg.u hR (Pr_p (k := 243) rfl _ _)) (Pr_p (k := 244) rfl _ _)) (Pr_x18 p43)) hA' (fun ka ja hk => ((uI_o (show ¬ (ka = 235 ∧ ja = 18) from by first | (intro e; obtain ⟨rfl, rfl⟩ := e; exact hk (by decide)) | omega))).trans (((uI_o (show ¬ (ka = 244 ∧ ja = (Int.toNat (I 235 18))) from by first | (intro e; obtain ⟨rfl, _⟩ := e; exact hk (by decide)) | omega))).trans ((uI_o (show ¬ (ka = 243 ∧ ja = (Int.toNat (I 235 18))) from by first | (intro e; obtain ⟨rfl, _⟩ := e; exact hk (by decide)) | omega)))))⟩
          ·
            refine ⟨_, rfl, (by decide), (show (0 : Int) ≤ (I 235 18) from by first | with_reducible assumption | omega | (simp only [wr, wl] at *; omega)), (show (I 235 18) < (24 : Int) from by first | with_reducible assumption | omega | (simp only [wr, wl] at *; omega)), ?_⟩
            refine ⟨_, rfl, (by decide), ?_⟩
            refine ⟨_, rfl, (by decide), ?_⟩
            have n44 : (wr ((I 235 18) + 1)) = (I 235 18) + 1 := wr_id (show -2147483648 ≤ ((I 235 18) + 1 : Int) ∧ ((I 235 18) + 1 : Int) < 2147483648 from by omega)
            have p45 : (0 : Int) ≤ (wr ((I 235 18) + 1)) ∧ ((wr ((I 235 18) + 1)) : Int) ≤ 24 := by first | omega | (simp only [wr, wl] at *; omega)
            exact ⟨rfl, fun hv hA' => hQ _ (Rg.u (Rg.u (Rg.u hR (Pr_p (k := 243) rfl _ _)) (Pr_p (k := 244) rfl _ _)) (Pr_x18 p45)) hA' (fun ka ja hk => ((uI_o (show ¬ (ka = 235 ∧ ja = 18) from by first | (intro e; obtain ⟨rfl, rfl⟩ := e; exact hk (by decide)) | omega))).trans (((uI_o (show ¬ (ka = 244 ∧ ja = (Int.toNat (I 235 18))) from by first | (intro e; obtain ⟨rfl, _⟩ := e; exact hk (by decide)) | omega))).trans ((uI_o (show ¬ (ka = 243 ∧ ja = (Int.toNat (I 235 18))) from by first | (intro e; obtain ⟨rfl, _⟩ := e; exact hk (by decide)) | omega)))))⟩
        ·
          refine ⟨_, rfl, (by decide), ?_⟩
          refine ⟨_, rfl, (by decide), ?_⟩
          refine fun w0 hw0 => ?_; obtain rfl : w0 = some 236 := hw0.symm.trans (FS.g hF rfl)
          refine ⟨_, rfl, (by decide), (by decide), (by decide), ?_⟩
          refine ⟨(show ¬ ((I 236 7) : Int) = 0 from by first | omega | (simp only [wr, wl] at *; omega)), ?_⟩
          refine ⟨fun (c46 : (¬ ((Int.tmod (wr ((I 235 18) + 1)) (I 236 7)) : Int) = 0)) => ?_, fun (c46 : (((Int.tmod (wr ((I 235 18) + 1)) (I 236 7)) : Int) = 0)) => ?_⟩
          ·
            refine ⟨_, rfl, (by decide), ?_⟩
            refine fun w0 hw0 => ?_; obtain rfl : w0 = some 243 := hw0.symm.trans (FS.g hF rfl)
            refine ⟨_, rfl, (by decide), ?_⟩
            refine ⟨_, rfl, (by decide), ?_⟩
            have r47 : 0 ≤ (I 235 12) ∧ (I 235 12) ≤ 20000000 := Rg.f12 hR
            refine ⟨_, rfl, (by decide), (show (0 : Int) ≤ (I 235 18) from by first | with_reducible assumption | omega | (simp only [wr, wl] at *; omega)), (show (I 235 18) < (24 : Int) from by first | with_reducible assumption | omega | (simp only [wr, wl] at *; omega)), ?_⟩
            refine ⟨_, rfl, (by decide), ?_⟩
            refine fun w0 hw0 => ?_; obtain rfl : w0 = some 244 := hw0.symm.trans (FS.g hF rfl)
            refine ⟨_, rfl, (by decide), ?_⟩
            refine ⟨fun _ => ?_, fun c => absurd (show ((0 : Int) = 0) from by decide) c⟩
            refine ⟨_, rfl, (by decide), ?_⟩
            refine fun w0 hw0 => ?_; obtain rfl : w0 = some 236 := hw0.symm.trans (FS.g hF rfl)
            refine ⟨_, rfl, (by decide), (by decide), (by decide), ?_⟩
            have a48 : -2147483648 ≤ (I 236 6) ∧ (I 236 6) < 2147483648 := hA.1 _ _
            refine ⟨fun (c49 : ((0 : Int) ≤ (I 236 6))) => ?_, fun (c49 : (¬ ((0 : Int) ≤ (I 236 6)))) => ?_⟩
            ·
              refine ⟨_, rfl, (by decide), (show (0 : Int) ≤ (I 235 18) from by first | with_reducible assumption | omega | (simp only [wr, wl] at *; omega)), (show (I 235 18) < (24 : Int) from by first | with_reducible assumption | omega | (simp only [wr, wl] at *; omega)), ?_⟩
              refine ⟨_, rfl, (by decide), ?_⟩
              refine ⟨_, rfl, (by decide), ?_⟩
              have n50 : (wr ((I 235 18) + 1)) = (I 235 18) + 1 := wr_id (show -2147483648 ≤ ((I 235 18) + 1 : Int) ∧ ((I 235 18) + 1 : Int) < 2147483648 from by omega)
              have p51 : (0 : Int) ≤ (wr ((I 235 18) + 1)) ∧ ((wr ((I 235 18) + 1)) : Int) ≤ 24 := by first | omega | (simp only [wr, wl] at *; omega)
              exact ⟨rfl, fun hv hA' => hQ _ (Rg.u (Rg.u (Rg.u hR (Pr_p (k := 243) rfl _ _)) (Pr_p (k := 244) rfl _ _)) (Pr_x18 p51)) hA' (fun ka ja hk => ((uI_o (show ¬ (ka = 235 ∧ ja = 18) from by first | (intro e; obtain ⟨rfl, rfl⟩ := e; exact hk (by decide)) | omega))).trans (((uI_o (show ¬ (ka = 244 ∧ ja = (Int.toNat (I 235 18))) from by first | (intro e; obtain ⟨rfl, _⟩ := e; exact hk (by decide)) | omega))).trans ((uI_o (show ¬ (ka = 243 ∧ ja = (Int.toNat (I 235 18))) from by first | (intro e; obtain ⟨rfl, _⟩ := e; exact hk (by decide)) | omega)))))⟩
            ·
              refine ⟨_, rfl, (by decide), (show (0 : Int) ≤ (I 235 18) from by first | with_reducible assumption | omega | (simp only [wr, wl] at *; omega)), (show (I 235 18) < (24 : Int) from by first | with_reducible assumption | omega | (simp only [wr, wl] at *; omega)), ?_⟩
              refine ⟨_, rfl, (by decide), ?_⟩
              refine ⟨_, rfl, (by decide), ?_⟩
              have n52 : (wr ((I 235 18) + 1)) = (I 235 18) + 1 := wr_id (show -2147483648 ≤ ((I 235 18) + 1 : Int) ∧ ((I 235 18) + 1 : Int) < 2147483648 from by omega)
              have p53 : (0 : Int) ≤ (wr ((I 235 18) + 1)) ∧ ((wr ((I 235 18) + 1)) : Int) ≤ 24 := by first | omega | (simp only [wr, wl] at *; omega)
              exact ⟨rfl, fun hv hA' => hQ _ (Rg.u (Rg.u (Rg.u hR (Pr_p (k := 243) rfl _ _)) (Pr_p (k := 244) rfl _ _)) (Pr_x18 p53)) hA' (fun ka ja hk => ((uI_o (show ¬ (ka = 235 ∧ ja = 18) from by first | (intro e; obtain ⟨rfl, rfl⟩ := e; exact hk (by decide)) | omega))).trans (((uI_o (show ¬ (ka = 244 ∧ ja = (Int.toNat (I 235 18))) from by first | (intro e; obtain ⟨rfl, _⟩ := e; exact hk (by decide)) | omega))).trans ((uI_o (show ¬ (ka = 243 ∧ ja = (Int.toNat (I 235 18))) from by first | (intro e; obtain ⟨rfl, _⟩ := e; exact hk (by decide)) | omega)))))⟩
          ·
            refine ⟨_, rfl, (by decide), ?_⟩
            refine fun w0 hw0 => ?_; obtain rfl : w0 = some 243 := hw0.symm.trans (FS.g hF rfl)
            refine ⟨_, rfl, (by decide), ?_⟩
            refine ⟨_, rfl, (by decide), ?_⟩
            have r54 : 0 ≤ (I 235 12) ∧ (I 235 12) ≤ 20000000 := Rg.f12 hR
            refine ⟨_, rfl, (by decide), (show (0 : Int) ≤ (I 235 18) from by first | with_reducible assumption | omega | (simp only [wr, wl] at *; omega)), (show (I 235 18) < (24 : Int) from by first | with_reducible assumption | omega | (simp only [wr, wl] at *; omega)), ?_⟩
            refine ⟨_, rfl, (by decide), ?_⟩
            refine fun w0 hw0 => ?_; obtain rfl : w0 = some 244 := hw0.symm.trans (FS.g hF rfl)
            refine ⟨_, rfl, (by decide), ?_⟩
            refine ⟨fun c => absurd c (show (¬ ((1 : Int) = 0)) from by decide), fun _ => ?_⟩
            refine ⟨_, rfl, (by decide), (show (0 : Int) ≤ (I 235 18) from by first | with_reducible assumption | omega | (simp only [wr, wl] at *; omega)), (show (I 235 18) < (24 : Int) from by first | with_reducible assumption | omega | (simp only [wr, wl] at *; omega)), ?_⟩
            refine ⟨_, rfl, (by decide), ?_⟩
            refine ⟨_, rfl, (by decide), ?_⟩
            have n55 : (wr ((I 235 18) + 1)) = (I 235 18) + 1 := wr_id (show -2147483648 ≤ ((I 235 18) + 1 : Int) ∧ ((I 235 18) + 1 : Int) < 2147483648 from by omega)
            have p56 : (0 : Int) ≤ (wr ((I 235 18) + 1)) ∧ ((wr ((I 235 18) + 1)) : Int) ≤ 24 := by first | omega | (simp only [wr, wl] at *; omega)
            exact ⟨rfl, fun hv hA' => hQ _ (Rg.u (Rg.u (Rg.u hR (Pr_p (k := 243) rfl _ _)) (Pr_p (k := 244) rfl _ _)) (Pr_x18 p56)) hA' (fun ka ja hk => ((uI_o (show ¬ (ka = 235 ∧ ja = 18) from by first | (intro e; obtain ⟨rfl, rfl⟩ := e; exact hk (by decide)) | omega))).trans (((uI_o (show ¬ (ka = 244 ∧ ja = (Int.toNat (I 235 18))) from by first | (intro e; obtain ⟨rfl, _⟩ := e; exact hk (by decide)) | omega))).trans ((uI_o (show ¬ (ka = 243 ∧ ja = (Int.toNat (I 235 18))) from by first | (intro e; obtain ⟨rfl, _⟩ := e; exact hk (by decide)) | omega)))))⟩
    ·
      refine ⟨⟨_, rfl, (by decide)⟩, ?_⟩
      refine Call_wp (lv := [some (vr 235)]) (by decide) ckX12_loadNow [] rfl rfl ?_
      refine ⟨_, rfl, (by decide), ?_⟩
      have a57 : -2147483648 ≤ (I 235 13) ∧ (I 235 13) < 2147483648 := hA.1 _ _
      refine ⟨fun (c58 : (((I 235 13) : Int) = 0)) => ?_, fun (c58 : (¬ (((I 235 13) : Int) = 0))) => ?_⟩
      ·
        refine ⟨_, rfl, (by decide), ?_⟩
        have r59 : 0 ≤ (I 235 11) ∧ (I 235 11) ≤ 13 := Rg.f11 hR
        refine ⟨_, rfl, (by decide), ?_⟩
        have r60 : 0 ≤ (I 235 12) ∧ (I 235 12) ≤ 20000000 := Rg.f12 hR
        refine ⟨⟨_, rfl, (by decide)⟩, ?_⟩
        refine r_answered (v0 := (I 235 11)) (v1 := (I 235 12)) hF hR (by omega) (by omega) (fun vr63 hr64 => ?_)
        have hr64 : -2147483648 ≤ vr63 ∧ vr63 < 2147483648 := hr64
        refine ⟨rfl, ?_⟩
        refine ⟨_, rfl, (by decide), ?_⟩
        refine fun w0 hw0 => ?_; obtain rfl : w0 = some 236 := hw0.symm.trans (FS.g hF rfl)
        refine ⟨_, rfl, (by decide), (by decide), (by decide), ?_⟩
        have r65 : 0 ≤ (I 236 7) ∧ (I 236 7) ≤ 24 := Rg.n7 hR
        refine ⟨fun (c67 : (((I 236 7) : Int) ≤ 0)) => ?_, fun (c67 : (¬ (((I 236 7) : Int) ≤ 0))) => ?_⟩
        ·
          refine ⟨_, rfl, (by decide), ?_⟩
          refine fun w0 hw0 => ?_; obtain rfl : w0 = some 243 := hw0.symm.trans (FS.g hF rfl)
          refine ⟨_, rfl, (by decide), ?_⟩
          refine ⟨_, rfl, (by decide), ?_⟩
          refine ⟨_, rfl, (by decide), (show (0 : Int) ≤ (I 235 18) from by first | with_reducible assumption | omega | (simp only [wr, wl] at *; omega)), (show (I 235 18) < (24 : Int) from by first | with_reducible assumption | omega | (simp only [wr, wl] at *; omega)), ?_⟩
          refine ⟨_, rfl, (by decide), ?_⟩
          refine fun w0 hw0 => ?_; obtain rfl : w0 = some 244 := hw0.symm.trans (FS.g hF rfl)
          refine ⟨_, rfl, (by decide), ?_⟩
          refine ⟨fun _ => ?_, fun c => absurd (show ((0 : Int) = 0) from by decide) c⟩
          refine ⟨_, rfl, (by decide), ?_⟩
          refine fun w0 hw0 => ?_; obtain rfl : w0 = some 236 := hw0.symm.trans (FS.g hF rfl)
          refine ⟨_, rfl, (by decide), (by decide), (by decide), ?_⟩
          have a68 : -2147483648 ≤ (I 236 6) ∧ (I 236 6) < 2147483648 := hA.1 _ _
          refine ⟨fun (c69 : ((vr63 : Int) ≤ (I 236 6))) => ?_, fun (c69 : (¬ ((vr63 : Int) ≤ (I 236 6)))) => ?_⟩
          ·
            refine ⟨_, rfl, (by decide), (show (0 : Int) ≤ (I 235 18) from by first | with_reducible assumption | omega | (simp only [wr, wl] at *; omega)), (show (I 235 18) < (24 : Int) from by first | with_reducible assumption | omega | (simp only [wr, wl] at *; omega)), ?_⟩
            refine ⟨_, rfl, (by decide), ?_⟩
            refine ⟨_, rfl, (by decide), ?_⟩
            have n70 : (wr ((I 235 18) + 1)) = (I 235 18) + 1 := wr_id (show -2147483648 ≤ ((I 235 18) + 1 : Int) ∧ ((I 235 18) + 1 : Int) < 2147483648 from by omega)
            have p71 : (0 : Int) ≤ (wr ((I 235 18) + 1)) ∧ ((wr ((I 235 18) + 1)) : Int) ≤ 24 := by first | omega | (simp only [wr, wl] at *; omega)
            exact ⟨rfl, fun hv hA' => hQ _ (Rg.u (Rg.u (Rg.u hR (Pr_p (k := 243) rfl _ _)) (Pr_p (k := 244) rfl _ _)) (Pr_x18 p71)) hA' (fun ka ja hk => ((uI_o (show ¬ (ka = 235 ∧ ja = 18) from by first | (intro e; obtain ⟨rfl, rfl⟩ := e; exact hk (by decide)) | omega))).trans (((uI_o (show ¬ (ka = 244 ∧ ja = (Int.toNat (I 235 18))) from by first | (intro e; obtain ⟨rfl, _⟩ := e; exact hk (by decide)) | omega))).trans ((uI_o (show ¬ (ka = 243 ∧ ja = (Int.toNat (I 235 18))) from by first | (intro e; obtain ⟨rfl, _⟩ := e; exact hk (by decide)) | omega)))))⟩
          ·
            refine ⟨_, rfl, (by decide), (show (0 : Int) ≤ (I 235 18) from by first | with_reducible assumption | omega | (simp only [wr, wl] at *; omega)), (show (I 235 18) < (24 : Int) from by first | with_reducible assumption | omega | (simp only [wr, wl] at *; omega)), ?_⟩
            refine ⟨_, rfl, (by decide), ?_⟩
            refine ⟨_, rfl, (by decide), ?_⟩
            have n72 : (wr ((I 235 18) + 1)) = (I 235 18) + 1 := wr_id (show -2147483648 ≤ ((I 235 18) + 1 : Int) ∧ ((I 235 18) + 1 : Int) < 2147483648 from by omega)
            have p73 : (0 : Int) ≤ (wr ((I 235 18) + 1)) ∧ ((wr ((I 235 18) + 1)) : Int) ≤ 24 := by first | omega | (simp only [wr, wl] at *; omega)
            exact ⟨rfl, fun hv hA' => hQ _ (Rg.u (Rg.u (Rg.u hR (Pr_p (k := 243) rfl _ _)) (Pr_p (k := 244) rfl _ _)) (Pr_x18 p73)) hA' (fun ka ja hk => ((uI_o (show ¬ (ka = 235 ∧ ja = 18) from by first | (intro e; obtain ⟨rfl, rfl⟩ := e; exact hk (by decide)) | omega))).trans (((uI_o (show ¬ (ka = 244 ∧ ja = (Int.toNat (I 235 18))) from by first | (intro e; obtain ⟨rfl, _⟩ := e; exact hk (by decide)) | omega))).trans ((uI_o (show ¬ (ka = 243 ∧ ja = (Int.toNat (I 235 18))) from by first | (intro e; obtain ⟨rfl, _⟩ := e; exact hk (by decide)) | omega)))))⟩
        ·
          refine ⟨_, rfl, (by decide), ?_⟩
          refine ⟨_, rfl, (by decide), ?_⟩
          refine fun w0 hw0 => ?_; obtain rfl : w0 = some 236 := hw0.symm.trans (FS.g hF rfl)
          refine ⟨_, rfl, (by decide), (by decide), (by decide), ?_⟩
          refine ⟨(show ¬ ((I 236 7) : Int) = 0 from by first | omega | (simp only [wr, wl] at *; omega)), ?_⟩
          refine ⟨fun (c74 : (¬ ((Int.tmod (wr ((I 235 18) + 1)) (I 236 7)) : Int) = 0)) => ?_, fun (c74 : (((Int.tmod (wr ((I 235 18) + 1)) (I 236 7)) : Int) = 0)) => ?_⟩
          ·
            refine ⟨_, rfl, (by decide), ?_⟩
            refine fun w0 hw0 => ?_; obtain rfl : w0 = some 243 := hw0.symm.trans (FS.g hF rfl)
            refine ⟨_, rfl, (by decide), ?_⟩
            refine ⟨_, rfl, (by decide), ?_⟩
            refine ⟨_, rfl, (by decide), (show (0 : Int) ≤ (I 235 18) from by first | with_reducible assumption | omega | (simp only [wr, wl] at *; omega)), (show (I 235 18) < (24 : Int) from by first | with_reducible assumption | omega | (simp only [wr, wl] at *; omega)), ?_⟩
            refine ⟨_, rfl, (by decide), ?_⟩
            refine fun w0 hw0 => ?_; obtain rfl : w0 = some 244 := hw0.symm.trans (FS.g hF rfl)
            refine ⟨_, rfl, (by decide), ?_⟩
            refine ⟨fun _ => ?_, fun c => absurd (show ((0 : Int) = 0) from by decide) c⟩
            refine ⟨_, rfl, (by decide), ?_⟩
            refine fun w0 hw0 => ?_; obtain rfl : w0 = some 236 := hw0.symm.trans (FS.g hF rfl)
            refine ⟨_, rfl, (by decide), (by decide), (by decide), ?_⟩
            have a75 : -2147483648 ≤ (I 236 6) ∧ (I 236 6) < 2147483648 := hA.1 _ _
            refine ⟨fun (c76 : ((vr63 : Int) ≤ (I 236 6))) => ?_, fun (c76 : (¬ ((vr63 : Int) ≤ (I 236 6)))) => ?_⟩
            ·
              refine ⟨_, rfl, (by decide), (show (0 : Int) ≤ (I 235 18) from by first | with_reducible assumption | omega | (simp only [wr, wl] at *; omega)), (show (I 235 18) < (24 : Int) from by first | with_reducible assumption | omega | (simp only [wr, wl] at *; omega)), ?_⟩
              refine ⟨_, rfl, (by decide), ?_⟩
              refine ⟨_, rfl, (by decide), ?_⟩
              have n77 : (wr ((I 235 18) + 1)) = (I 235 18) + 1 := wr_id (show -2147483648 ≤ ((I 235 18) + 1 : Int) ∧ ((I 235 18) + 1 : Int) < 2147483648 from by omega)
              have p78 : (0 : Int) ≤ (wr ((I 235 18) + 1)) ∧ ((wr ((I 235 18) + 1)) : Int) ≤ 24 := by first | omega | (simp only [wr, wl] at *; omega)
              exact ⟨rfl, fun hv hA' => hQ _ (Rg.u (Rg.u (Rg.u hR (Pr_p (k := 243) rfl _ _)) (Pr_p (k := 244) rfl _ _)) (Pr_x18 p78)) hA' (fun ka ja hk => ((uI_o (show ¬ (ka = 235 ∧ ja = 18) from by first | (intro e; obtain ⟨rfl, rfl⟩ := e; exact hk (by decide)) | omega))).trans (((uI_o (show ¬ (ka = 244 ∧ ja = (Int.toNat (I 235 18))) from by first | (intro e; obtain ⟨rfl, _⟩ := e; exact hk (by decide)) | omega))).trans ((uI_o (show ¬ (ka = 243 ∧ ja = (Int.toNat (I 235 18))) from by first | (intro e; obtain ⟨rfl, _⟩ := e; exact hk (by decide)) | omega)))))⟩
            ·
              refine ⟨_, rfl, (by decide), (show (0 : Int) ≤ (I 235 18) from by first | with_reducible assumption | omega | (simp only [wr, wl] at *; omega)), (show (I 235 18) < (24 : Int) from by first | with_reducible assumption | omega | (simp only [wr, wl] at *; omega)), ?_⟩
              refine ⟨_, rfl, (by decide), ?_⟩
              refine ⟨_, rfl, (by decide), ?_⟩
              have n79 : (wr ((I 235 18) + 1)) = (I 235 18) + 1 := wr_id (show -2147483648 ≤ ((I 235 18) + 1 : Int) ∧ ((I 235 18) + 1 : Int) < 2147483648 from by omega)
              have p80 : (0 : Int) ≤ (wr ((I 235 18) + 1)) ∧ ((wr ((I 235 18) + 1)) : Int) ≤ 24 := by first | omega | (simp only [wr, wl] at *; omega)
              exact ⟨rfl, fun hv hA' => hQ _ (Rg.u (Rg.u (Rg.u hR (Pr_p (k := 243) rfl _ _)) (Pr_p (k := 244) rfl _ _)) (Pr_x18 p80)) hA' (fun ka ja hk => ((uI_o (show ¬ (ka = 235 ∧ ja = 18) from by first | (intro e; obtain ⟨rfl, rfl⟩ := e; exact hk (by decide)) | omega))).trans (((uI_o (show ¬ (ka = 244 ∧ ja = (Int.toNat (I 235 18))) from by first | (intro e; obtain ⟨rfl, _⟩ := e; exact hk (by decide)) | omega))).trans ((uI_o (show ¬ (ka = 243 ∧ ja = (Int.toNat (I 235 18))) from by first | (intro e; obtain ⟨rfl, _⟩ := e; exact hk (by decide)) | omega)))))⟩
          ·
            refine ⟨_, rfl, (by decide), ?_⟩
            refine fun w0 hw0 => ?_; obtain rfl : w0 = some 243 := hw0.symm.trans (FS.g hF rfl)
            refine ⟨_, rfl, (by decide), ?_⟩
            refine ⟨_, rfl, (by decide), ?_⟩
            refine ⟨_, rfl, (by decide), (show (0 : Int) ≤ (I 235 18) from by first | with_reducible assumption | omega | (simp only [wr, wl] at *; omega)), (show (I 235 18) < (24 : Int) from by first | with_reducible assumption | omega | (simp only [wr, wl] at *; omega)), ?_⟩
            refine ⟨_, rfl, (by decide), ?_⟩
            refine fun w0 hw0 => ?_; obtain rfl : w0 = some 244 := hw0.symm.trans (FS.g hF rfl)
            refine ⟨_, rfl, (by decide), ?_⟩
            refine ⟨fun c => absurd c (show (¬ ((1 : Int) = 0)) from by decide), fun _ => ?_⟩
            refine ⟨_, rfl, (by decide), (show (0 : Int) ≤ (I 235 18) from by first | with_reducible assumption | omega | (simp only [wr, wl] at *; omega)), (show (I 235 18) < (24 : Int) from by first | with_reducible assumption | omega | (simp only [wr, wl] at *; omega)), ?_⟩
            refine ⟨_, rfl, (by decide), ?_⟩
            refine ⟨_, rfl, (by decide), ?_⟩
            have n81 : (wr ((I 235 18) + 1)) = (I 235 18) + 1 := wr_id (show -2147483648 ≤ ((I 235 18) + 1 : Int) ∧ ((I 235 18) + 1 : Int) < 2147483648 from by omega)
            have p82 : (0 : Int) ≤ (wr ((I 235 18) + 1)) ∧ ((wr ((I 235 18) + 1)) : Int) ≤ 24 := by first | omega | (simp only [wr, wl] at *; omega)
            exact ⟨rfl, fun hv hA' => hQ _ (Rg.u (Rg.u (Rg.u hR (Pr_p (k := 243) rfl _ _)) (Pr_p (k := 244) rfl _ _)) (Pr_x18 p82)) hA' (fun ka ja hk => ((uI_o (show ¬ (ka = 235 ∧ ja = 18) from by first | (intro e; obtain ⟨rfl, rfl⟩ := e; exact hk (by decide)) | omega))).trans (((uI_o (show ¬ (ka = 244 ∧ ja = (Int.toNat (I 235 18))) from by first | (intro e; obtain ⟨rfl, _⟩ := e; exact hk (by decide)) | omega))).trans ((uI_o (show ¬ (ka = 243 ∧ ja = (Int.toNat (I 235 18))) from by first | (intro e; obtain ⟨rfl, _⟩ := e; exact hk (by decide)) | omega)))))⟩
      ·
        refine ⟨rfl, ?_⟩
        refine ⟨_, rfl, (by decide), ?_⟩
        refine fun w0 hw0 => ?_; obtain rfl : w0 = some 236 := hw0.symm.trans (FS.g hF rfl)
        refine ⟨_, rfl, (by decide), (by decide), (by decide), ?_⟩
        have r83 : 0 ≤ (I 236 7) ∧ (I 236 7) ≤ 24 := Rg.n7 hR
        refine ⟨fun (c85 : (((I 236 7) : Int) ≤ 0)) => ?_, fun (c85 : (¬ (((I 236 7) : Int) ≤ 0))) => ?_⟩
        ·
          refine ⟨_, rfl, (by decide), ?_⟩
          refine fun w0 hw0 => ?_; obtain rfl : w0 = some 243 := hw0.symm.trans (FS.g hF rfl)
          refine ⟨_, rfl, (by decide), ?_⟩
          refine ⟨_, rfl, (by decide), ?_⟩
          have r86 : 0 ≤ (I 235 12) ∧ (I 235 12) ≤ 20000000 := Rg.f12 hR
          refine ⟨_, rfl, (by decide), (show (0 : Int) ≤ (I 235 18) from by first | with_reducible assumption | omega | (simp only [wr, wl] at *; omega)), (show (I 235 18) < (24 : Int) from by first | with_reducible assumption | omega | (simp only [wr, wl] at *; omega)), ?_⟩
          refine ⟨_, rfl, (by decide), ?_⟩
          refine fun w0 hw0 => ?_; obtain rfl : w0 = some 244 := hw0.symm.trans (FS.g hF rfl)
          refine ⟨_, rfl, (by decide), ?_⟩
          refine ⟨fun _ => ?_, fun c => absurd (show ((0 : Int) = 0) from by decide) c⟩
          refine ⟨_, rfl, (by decide), ?_⟩
          refine fun w0 hw0 => ?_; obtain rfl : w0 = some 236 := hw0.symm.trans (FS.g hF rfl)
          refine ⟨_, rfl, (by decide), (by decide), (by decide), ?_⟩
          have a87 : -2147483648 ≤ (I 236 6) ∧ (I 236 6) < 2147483648 := hA.1 _ _
          refine ⟨fun (c88 : ((0 : Int) ≤ (I 236 6))) => ?_, fun (c88 : (¬ ((0 : Int) ≤ (I 236 6)))) => ?_⟩
          ·
            refine ⟨_, rfl, (by decide), (show (0 : Int) ≤ (I 235 18) from by first | with_reducible assumption | omega | (simp only [wr, wl] at *; omega)), (show (I 235 18) < (24 : Int) from by first | with_reducible assumption | omega | (simp only [wr, wl] at *; omega)), ?_⟩
            refine ⟨_, rfl, (by decide), ?_⟩
            refine ⟨_, rfl, (by decide), ?_⟩
            have n89 : (wr ((I 235 18) + 1)) = (I 235 18) + 1 := wr_id (show -2147483648 ≤ ((I 235 18) + 1 : Int) ∧ ((I 235 18) + 1 : Int) < 2147483648 from by omega)
            have p90 : (0 : Int) ≤ (wr ((I 235 18) + 1)) ∧ ((wr ((I 235 18) + 1)) : Int) ≤ 24 := by first | omega | (simp only [wr, wl] at *; omega)
            exact ⟨rfl, fun hv hA' => hQ _ (Rg.u (Rg.u (Rg.u hR (Pr_p (k := 243) rfl _ _)) (Pr_p (k := 244) rfl _ _)) (Pr_x18 p90)) hA' (fun ka ja hk => ((uI_o (show ¬ (ka = 235 ∧ ja = 18) from by first | (intro e; obtain ⟨rfl, rfl⟩ := e; exact hk (by decide)) | omega))).trans (((uI_o (show ¬ (ka = 244 ∧ ja = (Int.toNat (I 235 18))) from by first | (intro e; obtain ⟨rfl, _⟩ := e; exact hk (by decide)) | omega))).trans ((uI_o (show ¬ (ka = 243 ∧ ja = (Int.toNat (I 235 18))) from by first | (intro e; obtain ⟨rfl, _⟩ := e; exact hk (by decide)) | omega)))))⟩
          ·
            refine ⟨_, rfl, (by decide), (show (0 : Int) ≤ (I 235 18) from by first | with_reducible assumption | omega | (simp only [wr, wl] at *; omega)), (show (I 235 18) < (24 : Int) from by first | with_reducible assumption | omega | (simp only [wr, wl] at *; omega)), ?_⟩
            refine ⟨_, rfl, (by decide), ?_⟩
            refine ⟨_, rfl, (by decide), ?_⟩
            have n91 : (wr ((I 235 18) + 1)) = (I 235 18) + 1 := wr_id (show -2147483648 ≤ ((I 235 18) + 1 : Int) ∧ ((I 235 18) + 1 : Int) < 2147483648 from by omega)
            have p92 : (0 : Int) ≤ (wr ((I 235 18) + 1)) ∧ ((wr ((I 235 18) + 1)) : Int) ≤ 24 := by first | omega | (simp only [wr, wl] at *; omega)
            exact ⟨rfl, fun hv hA' => hQ _ (Rg.u (Rg.u (Rg.u hR (Pr_p (k := 243) rfl _ _)) (Pr_p (k := 244) rfl _ _)) (Pr_x18 p92)) hA' (fun ka ja hk => ((uI_o (show ¬ (ka = 235 ∧ ja = 18) from by first | (intro e; obtain ⟨rfl, rfl⟩ := e; exact hk (by decide)) | omega))).trans (((uI_o (show ¬ (ka = 244 ∧ ja = (Int.toNat (I 235 18))) from by first | (intro e; obtain ⟨rfl, _⟩ := e; exact hk (by decide)) | omega))).trans ((uI_o (show ¬ (ka = 243 ∧ ja = (Int.toNat (I 235 18))) from by first | (intro e; obtain ⟨rfl, _⟩ := e; exact hk (by decide)) | omega)))))⟩
        ·
          refine ⟨_, rfl, (by decide), ?_⟩
          refine ⟨_, rfl, (by decide), ?_⟩
          refine fun w0 hw0 => ?_; obtain rfl : w0 = some 236 := hw0.symm.trans (FS.g hF rfl)
          refine ⟨_, rfl, (by decide), (by decide), (by decide), ?_⟩
          refine ⟨(show ¬ ((I 236 7) : Int) = 0 from by first | omega | (simp only [wr, wl] at *; omega)), ?_⟩
          refine ⟨fun (c93 : (¬ ((Int.tmod (wr ((I 235 18) + 1)) (I 236 7)) : Int) = 0)) => ?_, fun (c93 : (((Int.tmod (wr ((I 235 18) + 1)) (I 236 7)) : Int) = 0)) => ?_⟩
          ·
            refine ⟨_, rfl, (by decide), ?_⟩
            refine fun w0 hw0 => ?_; obtain rfl : w0 = some 243 := hw0.symm.trans (FS.g hF rfl)
            refine ⟨_, rfl, (by decide), ?_⟩
            refine ⟨_, rfl, (by decide), ?_⟩
            have r94 : 0 ≤ (I 235 12) ∧ (I 235 12) ≤ 20000000 := Rg.f12 hR
            refine ⟨_, rfl, (by decide), (show (0 : Int) ≤ (I 235 18) from by first | with_reducible assumption | omega | (simp only [wr, wl] at *; omega)), (show (I 235 18) < (24 : Int) from by first | with_reducible assumption | omega | (simp only [wr, wl] at *; omega)), ?_⟩
            refine ⟨_, rfl, (by decide), ?_⟩
            refine fun w0 hw0 => ?_; obtain rfl : w0 = some 244 := hw0.symm.trans (FS.g hF rfl)
            refine ⟨_, rfl, (by decide), ?_⟩
            refine ⟨fun _ => ?_, fun c => absurd (show ((0 : Int) = 0) from by decide) c⟩
            refine ⟨_, rfl, (by decide), ?_⟩
            refine fun w0 hw0 => ?_; obtain rfl : w0 = some 236 := hw0.symm.trans (FS.g hF rfl)
            refine ⟨_, rfl, (by decide), (by decide), (by decide), ?_⟩
            have a95 : -2147483648 ≤ (I 236 6) ∧ (I 236 6) < 2147483648 := hA.1 _ _
            refine ⟨fun (c96 : ((0 : Int) ≤ (I 236 6))) => ?_, fun (c96 : (¬ ((0 : Int) ≤ (I 236 6)))) => ?_⟩
            ·
              refine ⟨_, rfl, (by decide), (show (0 : Int) ≤ (I 235 18) from by first | with_reducible assumption | omega | (simp only [wr, wl] at *; omega)), (show (I 235 18) < (24 : Int) from by first | with_reducible assumption | omega | (simp only [wr, wl] at *; omega)), ?_⟩
              refine ⟨_, rfl, (by decide), ?_⟩
              refine ⟨_, rfl, (by decide), ?_⟩
              have n97 : (wr ((I 235 18) + 1)) = (I 235 18) + 1 := wr_id (show -2147483648 ≤ ((I 235 18) + 1 : Int) ∧ ((I 235 18) + 1 : Int) < 2147483648 from by omega)
              have p98 : (0 : Int) ≤ (wr ((I 235 18) + 1)) ∧ ((wr ((I 235 18) + 1)) : Int) ≤ 24 := by first | omega | (simp only [wr, wl] at *; omega)
              exact ⟨rfl, fun hv hA' => hQ _ (Rg.u (Rg.u (Rg.u hR (Pr_p (k := 243) rfl _ _)) (Pr_p (k := 244) rfl _ _)) (Pr_x18 p98)) hA' (fun ka ja hk => ((uI_o (show ¬ (ka = 235 ∧ ja = 18) from by first | (intro e; obtain ⟨rfl, rfl⟩ := e; exact hk (by decide)) | omega))).trans (((uI_o (show ¬ (ka = 244 ∧ ja = (Int.toNat (I 235 18))) from by first | (intro e; obtain ⟨rfl, _⟩ := e; exact hk (by decide)) | omega))).trans ((uI_o (show ¬ (ka = 243 ∧ ja = (Int.toNat (I 235 18))) from by first | (intro e; obtain ⟨rfl, _⟩ := e; exact hk (by decide)) | omega)))))⟩
            ·
              refine ⟨_, rfl, (by decide), (show (0 : Int) ≤ (I 235 18) from by first | with_reducible assumption | omega | (simp only [wr, wl] at *; omega)), (show (I 235 18) < (24 : Int) from by first | with_reducible assumption | omega | (simp only [wr, wl] at *; omega)), ?_⟩
              refine ⟨_, rfl, (by decide), ?_⟩
              refine ⟨_, rfl, (by decide), ?_⟩
              have n99 : (wr ((I 235 18) + 1)) = (I 235 18) + 1 := wr_id (show -2147483648 ≤ ((I 235 18) + 1 : Int) ∧ ((I 235 18) + 1 : Int) < 2147483648 from by omega)
              have p100 : (0 : Int) ≤ (wr ((I 235 18) + 1)) ∧ ((wr ((I 235 18) + 1)) : Int) ≤ 24 := by first | omega | (simp only [wr, wl] at *; omega)
              exact ⟨rfl, fun hv hA' => hQ _ (Rg.u (Rg.u (Rg.u hR (Pr_p (k := 243) rfl _ _)) (Pr_p (k := 244) rfl _ _)) (Pr_x18 p100)) hA' (fun ka ja hk => ((uI_o (show ¬ (ka = 235 ∧ ja = 18) from by first | (intro e; obtain ⟨rfl, rfl⟩ := e; exact hk (by decide)) | omega))).trans (((uI_o (show ¬ (ka = 244 ∧ ja = (Int.toNat (I 235 18))) from by first | (intro e; obtain ⟨rfl, _⟩ := e; exact hk (by decide)) | omega))).trans ((uI_o (show ¬ (ka = 243 ∧ ja = (Int.toNat (I 235 18))) from by first | (intro e; obtain ⟨rfl, _⟩ := e; exact hk (by decide)) | omega)))))⟩
          ·
            refine ⟨_, rfl, (by decide), ?_⟩
            refine fun w0 hw0 => ?_; obtain rfl : w0 = some 243 := hw0.symm.trans (FS.g hF rfl)
            refine ⟨_, rfl, (by decide), ?_⟩
            refine ⟨_, rfl, (by decide), ?_⟩
            have r101 : 0 ≤ (I 235 12) ∧ (I 235 12) ≤ 20000000 := Rg.f12 hR
            refine ⟨_, rfl, (by decide), (show (0 : Int) ≤ (I 235 18) from by first | with_reducible assumption | omega | (simp only [wr, wl] at *; omega)), (show (I 235 18) < (24 : Int) from by first | with_reducible assumption | omega | (simp only [wr, wl] at *; omega)), ?_⟩
            refine ⟨_, rfl, (by decide), ?_⟩
            refine fun w0 hw0 => ?_; obtain rfl : w0 = some 244 := hw0.symm.trans (FS.g hF rfl)
            refine ⟨_, rfl, (by decide), ?_⟩
            refine ⟨fun c => absurd c (show (¬ ((1 : Int) = 0)) from by decide), fun _ => ?_⟩
            refine ⟨_, rfl, (by decide), (show (0 : Int) ≤ (I 235 18) from by first | with_reducible assumption | omega | (simp only [wr, wl] at *; omega)), (show (I 235 18) < (24 : Int) from by first | with_reducible assumption | omega | (simp only [wr, wl] at *; omega)), ?_⟩
            refine ⟨_, rfl, (by decide), ?_⟩
            refine ⟨_, rfl, (by decide), ?_⟩
            have n102 : (wr ((I 235 18) + 1)) = (I 235 18) + 1 := wr_id (show -2147483648 ≤ ((I 235 18) + 1 : Int) ∧ ((I 235 18) + 1 : Int) < 2147483648 from by omega)
            have p103 : (0 : Int) ≤ (wr ((I 235 18) + 1)) ∧ ((wr ((I 235 18) + 1)) : Int) ≤ 24 := by first | omega | (simp only [wr, wl] at *; omega)
            exact ⟨rfl, fun hv hA' => hQ _ (Rg.u (Rg.u (Rg.u hR (Pr_p (k := 243) rfl _ _)) (Pr_p (k := 244) rfl _ _)) (Pr_x18 p103)) hA' (fun ka ja hk => ((uI_o (show ¬ (ka = 235 ∧ ja = 18) from by first | (intro e; obtain ⟨rfl, rfl⟩ := e; exact hk (by decide)) | omega))).trans (((uI_o (show ¬ (ka = 244 ∧ ja = (Int.toNat (I 235 18))) from by first | (intro e; obtain ⟨rfl, _⟩ := e; exact hk (by decide)) | omega))).trans ((uI_o (show ¬ (ka = 243 ∧ ja = (Int.toNat (I 235 18))) from by first | (intro e; obtain ⟨rfl, _⟩ := e; exact hk (by decide)) | omega)))))⟩
  ·
    exact ⟨rfl, fun hv hA' => hQ _ hR hA' (fun _ _ _ => rfl)⟩
theorem r_does_l (hF : FS F) (hR : Rg I) {v0 v1 : Int} (B : Int) (hB : 0 ≤ B ∧ B ≤ 19000000) (hQ : ∀ (I' : pI), Rg I' → (∀ k j, ¬ ((k = 235 ∧ 12 ≤ j ∧ j ≤ 18) ∨ (242 ≤ k ∧ k ≤ 244)) → I' k j = I k j) → ((I' 235 16) ≤ B + 300000) → ((I' 235 12) ≤ B + 300000) → Q none F I') : ∀ (mz : Nat) (tm k : Int) (J : pI), Rg J → (∀ k j, ¬ ((k = 235 ∧ 12 ≤ j ∧ j ≤ 18) ∨ (242 ≤ k ∧ k ≤ 244)) → J k j = I k j) → ((tm : Int) ≤ 300000) → ((0 : Int) ≤ k) → ((k : Int) ≤ 300000) → ((J 235 16) ≤ B + k) → ((J 235 12) ≤ B + k) → (tm - k).toNat < mz → GoN G (d + 5) kX12_does NP NP 30 [some (vr 235), some (vi v0), some (vi v1), some (vi tm), some (vi k)] [] F J Q := by
  intro mz
  induction mz with
  | zero => intro tm k J hJ hV _ _ _ _ _ h; exact absurd h (Nat.not_lt_zero _)
  | succ mz ih =>
    intro tm k J hJ hV c100 c101 c102 c103 c104 hm
    refine GoN_in (fun hok hA => ?_)
    have iiv0 : -2147483648 ≤ v0 ∧ v0 < 2147483648 := hok 1 _ rfl
    have iiv1 : -2147483648 ≤ v1 ∧ v1 < 2147483648 := hok 2 _ rfl
    have iitm : -2147483648 ≤ tm ∧ tm < 2147483648 := hok 3 _ rfl
    have iik : -2147483648 ≤ k ∧ k < 2147483648 := hok 4 _ rfl
    have r1 : 0 ≤ (J 235 16) ∧ (J 235 16) ≤ 20000000 := Rg.f16 hJ
    have r3 : 0 ≤ (J 235 12) ∧ (J 235 12) ≤ 20000000 := Rg.f12 hJ
    refine Go_wp (by decide) ckX12_does [30] ?_
    refine ⟨fun (c5 : ((tm : Int) ≤ k)) => ?_, fun (c5 : (¬ ((tm : Int) ≤ k))) => ?_⟩
    ·
      exact ⟨rfl, hQ _ hJ (fun ka ja hk => (hV ka ja (by omega))) (show (J 235 16) ≤ B + 300000 from by first | with_reducible assumption | omega | (simp only [wr, wl] at *; omega)) (show (J 235 12) ≤ B + 300000 from by first | with_reducible assumption | omega | (simp only [wr, wl] at *; omega))⟩
    ·
      refine ⟨⟨_, rfl, (by decide)⟩, ?_⟩
      refine Call_wp (lv := [some (vr 235)]) (by decide) ckX12_goesOn [] rfl rfl ?_
      refine ⟨_, rfl, (by decide), ?_⟩
      have a6 : -2147483648 ≤ (J 235 14) ∧ (J 235 14) < 2147483648 := hA.1 _ _
      refine ⟨fun (c7 : (¬ ((J 235 14) : Int) = 0)) => ?_, fun (c7 : (((J 235 14) : Int) = 0)) => ?_⟩
      ·
        refine ⟨rfl, (by decide), ?_⟩
        refine ⟨fun c => absurd c (show (¬ ((1 : Int) = 0)) from by decide), fun _ => ?_⟩
        refine ⟨fun (c8 : ((v0 : Int) = 0)) => ?_, fun (c8 : (¬ ((v0 : Int) = 0))) => ?_⟩
        ·
          refine ⟨_, rfl, (by decide), ?_⟩
          refine ⟨_, rfl, (by decide), ?_⟩
          have n9 : (wr ((J 235 12) + 1)) = (J 235 12) + 1 := wr_id (show -2147483648 ≤ ((J 235 12) + 1 : Int) ∧ ((J 235 12) + 1 : Int) < 2147483648 from by omega)
          have p10 : (0 : Int) ≤ (wr ((J 235 12) + 1)) ∧ ((wr ((J 235 12) + 1)) : Int) ≤ 20000000 := by first | omega | (simp only [wr, wl] at *; omega)
          refine ⟨⟨_, rfl, (by decide)⟩, ?_⟩
          refine r_tick  hF (Rg.u hJ (Pr_x12 p10)) (show (J 235 16) ≤ 19999999 from by first | with_reducible assumption | omega | (simp only [wr, wl] at *; omega)) (fun I11 hR12 hA13 hW14 q15 => ?_)
          have q15 : (I11 235 16) = (J 235 16) + 1 := q15
          have n16 : (wr (k + 1)) = k + 1 := wr_id (show -2147483648 ≤ (k + 1 : Int) ∧ (k + 1 : Int) < 2147483648 from by omega)
          have r17 : 0 ≤ (I11 235 16) ∧ (I11 235 16) ≤ 20000000 := Rg.f16 hR12
          have u19 : (I11 235 12) = ((uI J 235 12 (wr ((J 235 12) + 1))) 235 12) := hW14 _ _ (by first | decide | omega)
          have u20 : ((uI J 235 12 (wr ((J 235 12) + 1))) 235 12) = (wr ((J 235 12) + 1)) := rfl
          have a21 : -2147483648 ≤ (I11 235 12) ∧ (I11 235 12) < 2147483648 := hA13.1 _ _
          have r22 : 0 ≤ (I11 235 12) ∧ (I11 235 12) ≤ 20000000 := Rg.f12 hR12
          exact ih tm (wr (k + 1)) I11 hR12 (fun ka ja hk => ((hW14 ka ja (by omega))).trans (((uI_o (show ¬ (ka = 235 ∧ ja = 12) from by first | (intro e; obtain ⟨rfl, rfl⟩ := e; exact hk (by decide)) | omega))).trans ((hV ka ja (by omega))))) (show (tm : Int) ≤ 300000 from by first | with_reducible assumption | omega | (simp only [wr, wl] at *; omega)) (show (0 : Int) ≤ (wr (k + 1)) from by first | with_reducible assumption | omega | (simp only [wr, wl] at *; omega)) (show ((wr (k + 1)) : Int) ≤ 300000 from by first | with_reducible assumption | omega | (simp only [wr, wl] at *; omega)) (show (I11 235 16) ≤ B + (wr (k + 1)) from by first | with_reducible assumption | omega | (simp only [wr, wl] at *; omega)) (show (I11 235 12) ≤ B + (wr (k + 1)) from by first | with_reducible assumption | omega | (simp only [wr, wl] at *; omega)) (show (tm - (wr (k + 1))).toNat < mz from by omega)
        ·
          refine ⟨fun (c23 : ((v0 : Int) = 1)) => ?_, fun (c23 : (¬ ((v0 : Int) = 1))) => ?_⟩
          ·
            refine ⟨⟨_, rfl, (by decide)⟩, ?_⟩
            refine Call_wp (lv := [some (vr 235)]) (by decide) ckX12_loadNow [] rfl rfl ?_
            refine ⟨_, rfl, (by decide), ?_⟩
            have a24 : -2147483648 ≤ (J 235 13) ∧ (J 235 13) < 2147483648 := hA.1 _ _
            refine ⟨fun (c25 : (((J 235 13) : Int) = 0)) => ?_, fun (c25 : (¬ (((J 235 13) : Int) = 0))) => ?_⟩
            ·
              refine ⟨_, rfl, (by decide), ?_⟩
              have r26 : 0 ≤ (I 235 11) ∧ (I 235 11) ≤ 13 := Rg.f11 hR
              have u27 : (J 235 11) = (I 235 11) := hV _ _ (by first | decide | omega)
              have a28 : -2147483648 ≤ (J 235 11) ∧ (J 235 11) < 2147483648 := hA.1 _ _
              have r29 : 0 ≤ (J 235 11) ∧ (J 235 11) ≤ 13 := Rg.f11 hJ
              refine ⟨_, rfl, (by decide), ?_⟩
              refine ⟨⟨_, rfl, (by decide)⟩, ?_⟩
              refine r_answered (v0 := (J 235 11)) (v1 := (J 235 12)) hF hJ (by omega) (by omega) (fun vr30 hr31 => ?_)
              have hr31 : -2147483648 ≤ vr30 ∧ vr30 < 2147483648 := hr31
              refine ⟨rfl, ?_⟩
              refine ⟨fun (c32 : ((vr30 : Int) < v1)) => ?_, fun (c32 : (¬ ((vr30 : Int) < v1))) => ?_⟩
              ·
                refine ⟨_, rfl, (by decide), ?_⟩
                refine ⟨_, rfl, (by decide), ?_⟩
                have n33 : (wr ((J 235 12) + 1)) = (J 235 12) + 1 := wr_id (show -2147483648 ≤ ((J 235 12) + 1 : Int) ∧ ((J 235 12) + 1 : Int) < 2147483648 from by omega)
                have p34 : (0 : Int) ≤ (wr ((J 235 12) + 1)) ∧ ((wr ((J 235 12) + 1)) : Int) ≤ 20000000 := by first | omega | (simp only [wr, wl] at *; omega)
                refine ⟨⟨_, rfl, (by decide)⟩, ?_⟩
                refine r_tick  hF (Rg.u hJ (Pr_x12 p34)) (show (J 235 16) ≤ 19999999 from by first | with_reducible assumption | omega | (simp only [wr, wl] at *; omega)) (fun I35 hR36 hA37 hW38 q39 => ?_)
                have q39 : (I35 235 16) = (J 235 16) + 1 := q39
                have n40 : (wr (k + 1)) = k + 1 := wr_id (show -2147483648 ≤ (k + 1 : Int) ∧ (k + 1 : Int) < 2147483648 from by omega)
                have r41 : 0 ≤ (I35 235 16) ∧ (I35 235 16) ≤ 20000000 := Rg.f16 hR36
                have u43 : (I35 235 12) = ((uI J 235 12 (wr ((J 235 12) + 1))) 235 12) := hW38 _ _ (by first | decide | omega)
                have u44 : ((uI J 235 12 (wr ((J 235 12) + 1))) 235 12) = (wr ((J 235 12) + 1)) := rfl
                have a45 : -2147483648 ≤ (I35 235 12) ∧ (I35 235 12) < 2147483648 := hA37.1 _ _
                have r46 : 0 ≤ (I35 235 12) ∧ (I35 235 12) ≤ 20000000 := Rg.f12 hR36
                exact ih tm (wr (k + 1)) I35 hR36 (fun ka ja hk => ((hW38 ka ja (by omega))).trans (((uI_o (show ¬ (ka = 235 ∧ ja = 12) from by first | (intro e; obtain ⟨rfl, rfl⟩ := e; exact hk (by decide)) | omega))).trans ((hV ka ja (by omega))))) (show (tm : Int) ≤ 300000 from by first | with_reducible assumption | omega | (simp only [wr, wl] at *; omega)) (show (0 : Int) ≤ (wr (k + 1)) from by first | with_reducible assumption | omega | (simp only [wr, wl] at *; omega)) (show ((wr (k + 1)) : Int) ≤ 300000 from by first | with_reducible assumption | omega | (simp only [wr, wl] at *; omega)) (show (I35 235 16) ≤ B + (wr (k + 1)) from by first | with_reducible assumption | omega | (simp only [wr, wl] at *; omega)) (show (I35 235 12) ≤ B + (wr (k + 1)) from by first | with_reducible assumption | omega | (simp only [wr, wl] at *; omega)) (show (tm - (wr (k + 1))).toNat < mz from by omega)
              ·
                exact ⟨rfl, hQ _ hJ (fun ka ja hk => (hV ka ja (by omega))) (show (J 235 16) ≤ B + 300000 from by first | with_reducible assumption | omega | (simp only [wr, wl] at *; omega)) (show (J 235 12) ≤ B + 300000 from by first | with_reducible assumption | omega | (simp only [wr, wl] at *; omega))⟩
            ·
              refine ⟨rfl, ?_⟩
              refine ⟨fun (c47 : ((0 : Int) < v1)) => ?_, fun (c47 : (¬ ((0 : Int) < v1))) => ?_⟩
              ·
                refine ⟨_, rfl, (by decide), ?_⟩
                refine ⟨_, rfl, (by decide), ?_⟩
                have n48 : (wr ((J 235 12) + 1)) = (J 235 12) + 1 := wr_id (show -2147483648 ≤ ((J 235 12) + 1 : Int) ∧ ((J 235 12) + 1 : Int) < 2147483648 from by omega)
                have p49 : (0 : Int) ≤ (wr ((J 235 12) + 1)) ∧ ((wr ((J 235 12) + 1)) : Int) ≤ 20000000 := by first | omega | (simp only [wr, wl] at *; omega)
                refine ⟨⟨_, rfl, (by decide)⟩, ?_⟩
                refine r_tick  hF (Rg.u hJ (Pr_x12 p49)) (show (J 235 16) ≤ 19999999 from by first | with_reducible assumption | omega | (simp only [wr, wl] at *; omega)) (fun I50 hR51 hA52 hW53 q54 => ?_)
                have q54 : (I50 235 16) = (J 235 16) + 1 := q54
                have n55 : (wr (k + 1)) = k + 1 := wr_id (show -2147483648 ≤ (k + 1 : Int) ∧ (k + 1 : Int) < 2147483648 from by omega)
                have r56 : 0 ≤ (I50 235 16) ∧ (I50 235 16) ≤ 20000000 := Rg.f16 hR51
                have u58 : (I50 235 12) = ((uI J 235 12 (wr ((J 235 12) + 1))) 235 12) := hW53 _ _ (by first | decide | omega)
                have u59 : ((uI J 235 12 (wr ((J 235 12) + 1))) 235 12) = (wr ((J 235 12) + 1)) := rfl
                have a60 : -2147483648 ≤ (I50 235 12) ∧ (I50 235 12) < 2147483648 := hA52.1 _ _
                have r61 : 0 ≤ (I50 235 12) ∧ (I50 235 12) ≤ 20000000 := Rg.f12 hR51
                exact ih tm (wr (k + 1)) I50 hR51 (fun ka ja hk => ((hW53 ka ja (by omega))).trans (((uI_o (show ¬ (ka = 235 ∧ ja = 12) from by first | (intro e; obtain ⟨rfl, rfl⟩ := e; exact hk (by decide)) | omega))).trans ((hV ka ja (by omega))))) (show (tm : Int) ≤ 300000 from by first | with_reducible assumption | omega | (simp only [wr, wl] at *; omega)) (show (0 : Int) ≤ (wr (k + 1)) from by first | with_reducible assumption | omega | (simp only [wr, wl] at *; omega)) (show ((wr (k + 1)) : Int) ≤ 300000 from by first | with_reducible assumption | omega | (simp only [wr, wl] at *; omega)) (show (I50 235 16) ≤ B + (wr (k + 1)) from by first | with_reducible assumption | omega | (simp only [wr, wl] at *; omega)) (show (I50 235 12) ≤ B + (wr (k + 1)) from by first | with_reducible assumption | omega | (simp only [wr, wl] at *; omega)) (show (tm - (wr (k + 1))).toNat < mz from by omega)
              ·
                exact ⟨rfl, hQ _ hJ (fun ka ja hk => (hV ka ja (by omega))) (show (J 235 16) ≤ B + 300000 from by first | with_reducible assumption | omega | (simp only [wr, wl] at *; omega)) (show (J 235 12) ≤ B + 300000 from by first | with_reducible assumption | omega | (simp only [wr, wl] at *; omega))⟩
          ·
            refine ⟨fun (c62 : ((v0 : Int) = 2)) => ?_, fun (c62 : (¬ ((v0 : Int) = 2))) => ?_⟩
            ·
              refine ⟨_, rfl, (by decide), ?_⟩
              refine ⟨_, rfl, (by decide), ?_⟩
              refine ⟨_, rfl, (by decide), ?_⟩
              refine ⟨_, rfl, (by decide), ?_⟩
              have r63 : 0 ≤ (I 235 11) ∧ (I 235 11) ≤ 13 := Rg.f11 hR
              have u64 : (J 235 11) = (I 235 11) := hV _ _ (by first | decide | omega)
              have a65 : -2147483648 ≤ (J 235 11) ∧ (J 235 11) < 2147483648 := hA.1 _ _
              have r66 : 0 ≤ (J 235 11) ∧ (J 235 11) ≤ 13 := Rg.f11 hJ
              refine ⟨⟨_, rfl, (by decide)⟩, ?_⟩
              refine r_of (p := (J 235 11)) (f := 0) hF (j := (Int.toNat (304 + 66 * (J 235 11)))) (by omega) (by omega) (by omega) (fun w67 hw68 => ?_)
              have r69 : 0 ≤ (I 236 (Int.toNat (304 + 66 * (J 235 11)))) ∧ (I 236 (Int.toNat (304 + 66 * (J 235 11)))) ≤ 5 := Pn_p0 (p := (Int.toNat (J 235 11))) (by omega) (by omega) (hR.n (Int.toNat (304 + 66 * (J 235 11))) (by omega))
              have u70 : (J 236 (Int.toNat (304 + 66 * (J 235 11)))) = (I 236 (Int.toNat (304 + 66 * (J 235 11)))) := hV _ _ (by first | decide | omega)
              have a71 : -2147483648 ≤ (J 236 (Int.toNat (304 + 66 * (J 235 11)))) ∧ (J 236 (Int.toNat (304 + 66 * (J 235 11)))) < 2147483648 := hA.1 _ _
              have r72 : 0 ≤ (J 236 (Int.toNat (304 + 66 * (J 235 11)))) ∧ (J 236 (Int.toNat (304 + 66 * (J 235 11)))) ≤ 5 := Pn_p0 (p := (Int.toNat (J 235 11))) (by omega) (by omega) (hJ.n (Int.toNat (304 + 66 * (J 235 11))) (by omega))
              have hw68 : w67 = (J 236 (Int.toNat (304 + 66 * (J 235 11)))) := hw68
              refine ⟨fun (c74 : (¬ (w67 : Int) = 3)) => ?_, fun (c74 : ((w67 : Int) = 3)) => ?_⟩
              ·
                refine ⟨_, rfl, (by decide), ?_⟩
                have n75 : (wr ((J 235 12) + 0)) = (J 235 12) + 0 := wr_id (show -2147483648 ≤ ((J 235 12) + 0 : Int) ∧ ((J 235 12) + 0 : Int) < 2147483648 from by omega)
                have p76 : (0 : Int) ≤ (wr ((J 235 12) + 0)) ∧ ((wr ((J 235 12) + 0)) : Int) ≤ 20000000 := by first | omega | (simp only [wr, wl] at *; omega)
                refine ⟨⟨_, rfl, (by decide)⟩, ?_⟩
                refine r_tick  hF (Rg.u (Rg.u hJ (Pr_f rfl)) (Pr_x12 p76)) (show (J 235 16) ≤ 19999999 from by first | with_reducible assumption | omega | (simp only [wr, wl] at *; omega)) (fun I77 hR78 hA79 hW80 q81 => ?_)
                have q81 : (I77 235 16) = (J 235 16) + 1 := q81
                have n82 : (wr (k + 1)) = k + 1 := wr_id (show -2147483648 ≤ (k + 1 : Int) ∧ (k + 1 : Int) < 2147483648 from by omega)
                have r83 : 0 ≤ (I77 235 16) ∧ (I77 235 16) ≤ 20000000 := Rg.f16 hR78
                have u85 : (I77 235 12) = ((uI (uI J 235 17 (wr ((J 235 17) + 1))) 235 12 (wr ((J 235 12) + 0))) 235 12) := hW80 _ _ (by first | decide | omega)
                have u86 : ((uI (uI J 235 17 (wr ((J 235 17) + 1))) 235 12 (wr ((J 235 12) + 0))) 235 12) = (wr ((J 235 12) + 0)) := rfl
                have a87 : -2147483648 ≤ (I77 235 12) ∧ (I77 235 12) < 2147483648 := hA79.1 _ _
                have r88 : 0 ≤ (I77 235 12) ∧ (I77 235 12) ≤ 20000000 := Rg.f12 hR78
                exact ih tm (wr (k + 1)) I77 hR78 (fun ka ja hk => ((hW80 ka ja (by omega))).trans (((uI_o (show ¬ (ka = 235 ∧ ja = 12) from by first | (intro e; obtain ⟨rfl, rfl⟩ := e; exact hk (by decide)) | omega))).trans (((uI_o (show ¬ (ka = 235 ∧ ja = 17) from by first | (intro e; obtain ⟨rfl, rfl⟩ := e; exact hk (by decide)) | omega))).trans ((hV ka ja (by omega)))))) (show (tm : Int) ≤ 300000 from by first | with_reducible assumption | omega | (simp only [wr, wl] at *; omega)) (show (0 : Int) ≤ (wr (k + 1)) from by first | with_reducible assumption | omega | (simp only [wr, wl] at *; omega)) (show ((wr (k + 1)) : Int) ≤ 300000 from by first | with_reducible assumption | omega | (simp only [wr, wl] at *; omega)) (show (I77 235 16) ≤ B + (wr (k + 1)) from by first | with_reducible assumption | omega | (simp only [wr, wl] at *; omega)) (show (I77 235 12) ≤ B + (wr (k + 1)) from by first | with_reducible assumption | omega | (simp only [wr, wl] at *; omega)) (show (tm - (wr (k + 1))).toNat < mz from by omega)
              ·
                refine ⟨_, rfl, (by decide), ?_⟩
                refine ⟨(by decide), ?_⟩
                have a89 : -2147483648 ≤ (J 235 17) ∧ (J 235 17) < 2147483648 := hA.1 _ _
                have n90 : -2147483648 ≤ (wr ((J 235 17) + 1)) ∧ (wr ((J 235 17) + 1)) < 2147483648 := wr_R _
                have n91 : -5 < (Int.tmod (wr ((J 235 17) + 1)) 5) ∧ (Int.tmod (wr ((J 235 17) + 1)) 5) < 5 := tm_b (by decide)
                refine ⟨fun (c92 : (¬ ((Int.tmod (wr ((J 235 17) + 1)) 5) : Int) = 0)) => ?_, fun (c92 : (((Int.tmod (wr ((J 235 17) + 1)) 5) : Int) = 0)) => ?_⟩
                ·
                  refine ⟨_, rfl, (by decide), ?_⟩
                  have n93 : (wr ((J 235 12) + 0)) = (J 235 12) + 0 := wr_id (show -2147483648 ≤ ((J 235 12) + 0 : Int) ∧ ((J 235 12) + 0 : Int) < 2147483648 from by omega)
                  have p94 : (0 : Int) ≤ (wr ((J 235 12) + 0)) ∧ ((wr ((J 235 12) + 0)) : Int) ≤ 20000000 := by first | omega | (simp only [wr, wl] at *; omega)
                  refine ⟨⟨_, rfl, (by decide)⟩, ?_⟩
                  refine r_tick  hF (Rg.u (Rg.u hJ (Pr_f rfl)) (Pr_x12 p94)) (show (J 235 16) ≤ 19999999 from by first | with_reducible assumption | omega | (simp only [wr, wl] at *; omega)) (fun I95 hR96 hA97 hW98 q99 => ?_)
                  have q99 : (I95 235 16) = (J 235 16) + 1 := q99
                  have n100 : (wr (k + 1)) = k + 1 := wr_id (show -2147483648 ≤ (k + 1 : Int) ∧ (k + 1 : Int) < 2147483648 from by omega)
                  have r101 : 0 ≤ (I95 235 16) ∧ (I95 235 16) ≤ 20000000 := Rg.f16 hR96
                  have u103 : (I95 235 12) = ((uI (uI J 235 17 (wr ((J 235 17) + 1))) 235 12 (wr ((J 235 12) + 0))) 235 12) := hW98 _ _ (by first | decide | omega)
                  have u104 : ((uI (uI J 235 17 (wr ((J 235 17) + 1))) 235 12 (wr ((J 235 12) + 0))) 235 12) = (wr ((J 235 12) + 0)) := rfl
                  have a105 : -2147483648 ≤ (I95 235 12) ∧ (I95 235 12) < 2147483648 := hA97.1 _ _
                  have r106 : 0 ≤ (I95 235 12) ∧ (I95 235 12) ≤ 20000000 := Rg.f12 hR96
                  exact ih tm (wr (k + 1)) I95 hR96 (fun ka ja hk => ((hW98 ka ja (by omega))).trans (((uI_o (show ¬ (ka = 235 ∧ ja = 12) from by first | (intro e; obtain ⟨rfl, rfl⟩ := e; exact hk (by decide)) | omega))).trans (((uI_o (show ¬ (ka = 235 ∧ ja = 17) from by first | (intro e; obtain ⟨rfl, rfl⟩ := e; exact hk (by decide)) | omega))).trans ((hV ka ja (by omega)))))) (show (tm : Int) ≤ 300000 from by first | with_reducible assumption | omega | (simp only [wr, wl] at *; omega)) (show (0 : Int) ≤ (wr (k + 1)) from by first | with_reducible assumption | omega | (simp only [wr, wl] at *; omega)) (show ((wr (k + 1)) : Int) ≤ 300000 from by first | with_reducible assumption | omega | (simp only [wr, wl] at *; omega)) (show (I95 235 16) ≤ B + (wr (k + 1)) from by first | with_reducible assumption | omega | (simp only [wr, wl] at *; omega)) (show (I95 235 12) ≤ B + (wr (k + 1)) from by first | with_reducible assumption | omega | (simp only [wr, wl] at *; omega)) (show (tm - (wr (k + 1))).toNat < mz from by omega)
                ·
                  refine ⟨_, rfl, (by decide), ?_⟩
                  have n107 : (wr ((J 235 12) + 1)) = (J 235 12) + 1 := wr_id (show -2147483648 ≤ ((J 235 12) + 1 : Int) ∧ ((J 235 12) + 1 : Int) < 2147483648 from by omega)
                  have p108 : (0 : Int) ≤ (wr ((J 235 12) + 1)) ∧ ((wr ((J 235 12) + 1)) : Int) ≤ 20000000 := by first | omega | (simp only [wr, wl] at *; omega)
                  refine ⟨⟨_, rfl, (by decide)⟩, ?_⟩
                  refine r_tick  hF (Rg.u (Rg.u hJ (Pr_f rfl)) (Pr_x12 p108)) (show (J 235 16) ≤ 19999999 from by first | with_reducible assumption | omega | (simp only [wr, wl] at *; omega)) (fun I109 hR110 hA111 hW112 q113 => ?_)
                  have q113 : (I109 235 16) = (J 235 16) + 1 := q113
                  have n114 : (wr (k + 1)) = k + 1 := wr_id (show -2147483648 ≤ (k + 1 : Int) ∧ (k + 1 : Int) < 2147483648 from by omega)
                  have r115 : 0 ≤ (I109 235 16) ∧ (I109 235 16) ≤ 20000000 := Rg.f16 hR110
                  have u117 : (I109 235 12) = ((uI (uI J 235 17 (wr ((J 235 17) + 1))) 235 12 (wr ((J 235 12) + 1))) 235 12) := hW112 _ _ (by first | decide | omega)
                  have u118 : ((uI (uI J 235 17 (wr ((J 235 17) + 1))) 235 12 (wr ((J 235 12) + 1))) 235 12) = (wr ((J 235 12) + 1)) := rfl
                  have a119 : -2147483648 ≤ (I109 235 12) ∧ (I109 235 12) < 2147483648 := hA111.1 _ _
                  have r120 : 0 ≤ (I109 235 12) ∧ (I109 235 12) ≤ 20000000 := Rg.f12 hR110
                  exact ih tm (wr (k + 1)) I109 hR110 (fun ka ja hk => ((hW112 ka ja (by omega))).trans (((uI_o (show ¬ (ka = 235 ∧ ja = 12) from by first | (intro e; obtain ⟨rfl, rfl⟩ := e; exact hk (by decide)) | omega))).trans (((uI_o (show ¬ (ka = 235 ∧ ja = 17) from by first | (intro e; obtain ⟨rfl, rfl⟩ := e; exact hk (by decide)) | omega))).trans ((hV ka ja (by omega)))))) (show (tm : Int) ≤ 300000 from by first | with_reducible assumption | omega | (simp only [wr, wl] at *; omega)) (show (0 : Int) ≤ (wr (k + 1)) from by first | with_reducible assumption | omega | (simp only [wr, wl] at *; omega)) (show ((wr (k + 1)) : Int) ≤ 300000 from by first | with_reducible assumption | omega | (simp only [wr, wl] at *; omega)) (show (I109 235 16) ≤ B + (wr (k + 1)) from by first | with_reducible assumption | omega | (simp only [wr, wl] at *; omega)) (show (I109 235 12) ≤ B + (wr (k + 1)) from by first | with_reducible assumption | omega | (simp only [wr, wl] at *; omega)) (show (tm - (wr (k + 1))).toNat < mz from by omega)
            ·
              refine ⟨fun (c121 : ((v0 : Int) = 3)) => ?_, fun (c121 : (¬ ((v0 : Int) = 3))) => ?_⟩
              ·
                refine ⟨_, rfl, (by decide), ?_⟩
                have n122 : (wr ((J 235 12) - 1)) = (J 235 12) - 1 := wr_id (show -2147483648 ≤ ((J 235 12) - 1 : Int) ∧ ((J 235 12) - 1 : Int) < 2147483648 from by omega)
                refine j_max (fun w123 h124 h125 h126 => ?_)
                refine ⟨_, rfl, (by decide), ?_⟩
                have p127 : (0 : Int) ≤ w123 ∧ (w123 : Int) ≤ 20000000 := by first | omega | (simp only [wr, wl] at *; omega)
                refine ⟨⟨_, rfl, (by decide)⟩, ?_⟩
                refine r_tick  hF (Rg.u hJ (Pr_x12 p127)) (show (J 235 16) ≤ 19999999 from by first | with_reducible assumption | omega | (simp only [wr, wl] at *; omega)) (fun I128 hR129 hA130 hW131 q132 => ?_)
                have q132 : (I128 235 16) = (J 235 16) + 1 := q132
                have n133 : (wr (k + 1)) = k + 1 := wr_id (show -2147483648 ≤ (k + 1 : Int) ∧ (k + 1 : Int) < 2147483648 from by omega)
                have r134 : 0 ≤ (I128 235 16) ∧ (I128 235 16) ≤ 20000000 := Rg.f16 hR129
                have u136 : (I128 235 12) = ((uI J 235 12 w123) 235 12) := hW131 _ _ (by first | decide | omega)
                have u137 : ((uI J 235 12 w123) 235 12) = w123 := rfl
                have a138 : -2147483648 ≤ (I128 235 12) ∧ (I128 235 12) < 2147483648 := hA130.1 _ _
                have r139 : 0 ≤ (I128 235 12) ∧ (I128 235 12) ≤ 20000000 := Rg.f12 hR129
                exact ih tm (wr (k + 1)) I128 hR129 (fun ka ja hk => ((hW131 ka ja (by omega))).trans (((uI_o (show ¬ (ka = 235 ∧ ja = 12) from by first | (intro e; obtain ⟨rfl, rfl⟩ := e; exact hk (by decide)) | omega))).trans ((hV ka ja (by omega))))) (show (tm : Int) ≤ 300000 from by first | with_reducible assumption | omega | (simp only [wr, wl] at *; omega)) (show (0 : Int) ≤ (wr (k + 1)) from by first | with_reducible assumption | omega | (simp only [wr, wl] at *; omega)) (show ((wr (k + 1)) : Int) ≤ 300000 from by first | with_reducible assumption | omega | (simp only [wr, wl] at *; omega)) (show (I128 235 16) ≤ B + (wr (k + 1)) from by first | with_reducible assumption | omega | (simp only [wr, wl] at *; omega)) (show (I128 235 12) ≤ B + (wr (k + 1)) from by first | with_reducible assumption | omega | (simp only [wr, wl] at *; omega)) (show (tm - (wr (k + 1))).toNat < mz from by omega)
              ·
                refine ⟨fun (c140 : ((v0 : Int) = 4)) => ?_, fun (c140 : (¬ ((v0 : Int) = 4))) => ?_⟩
                ·
                  refine ⟨⟨_, rfl, (by decide)⟩, ?_⟩
                  refine r_take  hF hJ (fun I141 hR142 hA143 hW144 => ?_)
                  refine ⟨⟨_, rfl, (by decide)⟩, ?_⟩
                  have u145 : (I141 235 16) = (J 235 16) := hW144 _ _ (by first | decide | omega)
                  have a146 : -2147483648 ≤ (I141 235 16) ∧ (I141 235 16) < 2147483648 := hA143.1 _ _
                  have r147 : 0 ≤ (I141 235 16) ∧ (I141 235 16) ≤ 20000000 := Rg.f16 hR142
                  refine r_tick  hF hR142 (show (I141 235 16) ≤ 19999999 from by first | with_reducible assumption | omega | (simp only [wr, wl] at *; omega)) (fun I148 hR149 hA150 hW151 q152 => ?_)
                  have q152 : (I148 235 16) = (I141 235 16) + 1 := q152
                  have n153 : (wr (k + 1)) = k + 1 := wr_id (show -2147483648 ≤ (k + 1 : Int) ∧ (k + 1 : Int) < 2147483648 from by omega)
                  have r154 : 0 ≤ (I148 235 16) ∧ (I148 235 16) ≤ 20000000 := Rg.f16 hR149
                  have u156 : (I141 235 12) = (J 235 12) := hW144 _ _ (by first | decide | omega)
                  have a157 : -2147483648 ≤ (I141 235 12) ∧ (I141 235 12) < 2147483648 := hA143.1 _ _
                  have r158 : 0 ≤ (I141 235 12) ∧ (I141 235 12) ≤ 20000000 := Rg.f12 hR142
                  have u159 : (I148 235 12) = (I141 235 12) := hW151 _ _ (by first | decide | omega)
                  have a160 : -2147483648 ≤ (I148 235 12) ∧ (I148 235 12) < 2147483648 := hA150.1 _ _
                  have r161 : 0 ≤ (I148 235 12) ∧ (I148 235 12) ≤ 20000000 := Rg.f12 hR149
                  exact ih tm (wr (k + 1)) I148 hR149 (fun ka ja hk => ((hW151 ka ja (by omega))).trans (((hW144 ka ja (by omega))).trans ((hV ka ja (by omega))))) (show (tm : Int) ≤ 300000 from by first | with_reducible assumption | omega | (simp only [wr, wl] at *; omega)) (show (0 : Int) ≤ (wr (k + 1)) from by first | with_reducible assumption | omega | (simp only [wr, wl] at *; omega)) (show ((wr (k + 1)) : Int) ≤ 300000 from by first | with_reducible assumption | omega | (simp only [wr, wl] at *; omega)) (show (I148 235 16) ≤ B + (wr (k + 1)) from by first | with_reducible assumption | omega | (simp only [wr, wl] at *; omega)) (show (I148 235 12) ≤ B + (wr (k + 1)) from by first | with_reducible assumption | omega | (simp only [wr, wl] at *; omega)) (show (tm - (wr (k + 1))).toNat < mz from by omega)
                ·
                  refine ⟨_, rfl, (by decide), ?_⟩
                  refine ⟨fun (c162 : (((J 235 12) : Int) < v1)) => ?_, fun (c162 : (¬ (((J 235 12) : Int) < v1))) => ?_⟩
                  ·
                    refine ⟨_, rfl, (by decide), ?_⟩
                    refine ⟨_, rfl, (by decide), ?_⟩
                    have n163 : (wr ((J 235 12) + 1)) = (J 235 12) + 1 := wr_id (show -2147483648 ≤ ((J 235 12) + 1 : Int) ∧ ((J 235 12) + 1 : Int) < 2147483648 from by omega)
                    have p164 : (0 : Int) ≤ (wr ((J 235 12) + 1)) ∧ ((wr ((J 235 12) + 1)) : Int) ≤ 20000000 := by first | omega | (simp only [wr, wl] at *; omega)
                    refine ⟨⟨_, rfl, (by decide)⟩, ?_⟩
                    refine r_tick  hF (Rg.u hJ (Pr_x12 p164)) (show (J 235 16) ≤ 19999999 from by first | with_reducible assumption | omega | (simp only [wr, wl] at *; omega)) (fun I165 hR166 hA167 hW168 q169 => ?_)
                    have q169 : (I165 235 16) = (J 235 16) + 1 := q169
                    have n170 : (wr (k + 1)) = k + 1 := wr_id (show -2147483648 ≤ (k + 1 : Int) ∧ (k + 1 : Int) < 2147483648 from by omega)
                    have r171 : 0 ≤ (I165 235 16) ∧ (I165 235 16) ≤ 20000000 := Rg.f16 hR166
                    have u173 : (I165 235 12) = ((uI J 235 12 (wr ((J 235 12) + 1))) 235 12) := hW168 _ _ (by first | decide | omega)
                    have u174 : ((uI J 235 12 (wr ((J 235 12) + 1))) 235 12) = (wr ((J 235 12) + 1)) := rfl
                    have a175 : -2147483648 ≤ (I165 235 12) ∧ (I165 235 12) < 2147483648 := hA167.1 _ _
                    have r176 : 0 ≤ (I165 235 12) ∧ (I165 235 12) ≤ 20000000 := Rg.f12 hR166
                    exact ih tm (wr (k + 1)) I165 hR166 (fun ka ja hk => ((hW168 ka ja (by omega))).trans (((uI_o (show ¬ (ka = 235 ∧ ja = 12) from by first | (intro e; obtain ⟨rfl, rfl⟩ := e; exact hk (by decide)) | omega))).trans ((hV ka ja (by omega))))) (show (tm : Int) ≤ 300000 from by first | with_reducible assumption | omega | (simp only [wr, wl] at *; omega)) (show (0 : Int) ≤ (wr (k + 1)) from by first | with_reducible assumption | omega | (simp only [wr, wl] at *; omega)) (show ((wr (k + 1)) : Int) ≤ 300000 from by first | with_reducible assumption | omega | (simp only [wr, wl] at *; omega)) (show (I165 235 16) ≤ B + (wr (k + 1)) from by first | with_reducible assumption | omega | (simp only [wr, wl] at *; omega)) (show (I165 235 12) ≤ B + (wr (k + 1)) from by first | with_reducible assumption | omega | (simp only [wr, wl] at *; omega)) (show (tm - (wr (k + 1))).toNat < mz from by omega)
                  ·
                    exact ⟨rfl, hQ _ hJ (fun ka ja hk => (hV ka ja (by omega))) (show (J 235 16) ≤ B + 300000 from by first | with_reducible assumption | omega | (simp only [wr, wl] at *; omega)) (show (J 235 12) ≤ B + 300000 from by first | with_reducible assumption | omega | (simp only [wr, wl] at *; omega))⟩
      ·
        refine ⟨_, rfl, (by decide), ?_⟩
        have a177 : -2147483648 ≤ (J 235 15) ∧ (J 235 15) < 2147483648 := hA.1 _ _
        refine ⟨fun (c178 : (¬ ((J 235 15) : Int) = 0)) => ?_, fun (c178 : (((J 235 15) : Int) = 0)) => ?_⟩
        ·
          refine ⟨rfl, (by decide), ?_⟩
          refine ⟨fun _ => ?_, fun c => absurd (show ((0 : Int) = 0) from by decide) c⟩
          exact ⟨rfl, hQ _ hJ (fun ka ja hk => (hV ka ja (by omega))) (show (J 235 16) ≤ B + 300000 from by first | with_reducible assumption | omega | (simp only [wr, wl] at *; omega)) (show (J 235 12) ≤ B + 300000 from by first | with_reducible assumption | omega | (simp only [wr, wl] at *; omega))⟩
        ·
          refine ⟨rfl, (by decide), ?_⟩
          refine ⟨fun c => absurd c (show (¬ ((1 : Int) = 0)) from by decide), fun _ => ?_⟩
          refine ⟨fun (c179 : ((v0 : Int) = 0)) => ?_, fun (c179 : (¬ ((v0 : Int) = 0))) => ?_⟩
          ·
            refine ⟨_, rfl, (by decide), ?_⟩
            refine ⟨_, rfl, (by decide), ?_⟩
            have n180 : (wr ((J 235 12) + 1)) = (J 235 12) + 1 := wr_id (show -2147483648 ≤ ((J 235 12) + 1 : Int) ∧ ((J 235 12) + 1 : Int) < 2147483648 from by omega)
            have p181 : (0 : Int) ≤ (wr ((J 235 12) + 1)) ∧ ((wr ((J 235 12) + 1)) : Int) ≤ 20000000 := by first | omega | (simp only [wr, wl] at *; omega)
            refine ⟨⟨_, rfl, (by decide)⟩, ?_⟩
            refine r_tick  hF (Rg.u hJ (Pr_x12 p181)) (show (J 235 16) ≤ 19999999 from by first | with_reducible assumption | omega | (simp only [wr, wl] at *; omega)) (fun I182 hR183 hA184 hW185 q186 => ?_)
            have q186 : (I182 235 16) = (J 235 16) + 1 := q186
            have n187 : (wr (k + 1)) = k + 1 := wr_id (show -2147483648 ≤ (k + 1 : Int) ∧ (k + 1 : Int) < 2147483648 from by omega)
            have r188 : 0 ≤ (I182 235 16) ∧ (I182 235 16) ≤ 20000000 := Rg.f16 hR183
            have u190 : (I182 235 12) = ((uI J 235 12 (wr ((J 235 12) + 1))) 235 12) := hW185 _ _ (by first | decide | omega)
            have u191 : ((uI J 235 12 (wr ((J 235 12) + 1))) 235 12) = (wr ((J 235 12) + 1)) := rfl
            have a192 : -2147483648 ≤ (I182 235 12) ∧ (I182 235 12) < 2147483648 := hA184.1 _ _
            have r193 : 0 ≤ (I182 235 12) ∧ (I182 235 12) ≤ 20000000 := Rg.f12 hR183
            exact ih tm (wr (k + 1)) I182 hR183 (fun ka ja hk => ((hW185 ka ja (by omega))).trans (((uI_o (show ¬ (ka = 235 ∧ ja = 12) from by first | (intro e; obtain ⟨rfl, rfl⟩ := e; exact hk (by decide)) | omega))).trans ((hV ka ja (by omega))))) (show (tm : Int) ≤ 300000 from by first | with_reducible assumption | omega | (simp only [wr, wl] at *; omega)) (show (0 : Int) ≤ (wr (k + 1)) from by first | with_reducible assumption | omega | (simp only [wr, wl] at *; omega)) (show ((wr (k + 1)) : Int) ≤ 300000 from by first | with_reducible assumption | omega | (simp only [wr, wl] at *; omega)) (show (I182 235 16) ≤ B + (wr (k + 1)) from by first | with_reducible assumption | omega | (simp only [wr, wl] at *; omega)) (show (I182 235 12) ≤ B + (wr (k + 1)) from by first | with_reducible assumption | omega | (simp only [wr, wl] at *; omega)) (show (tm - (wr (k + 1))).toNat < mz from by omega)
          ·
            refine ⟨fun (c194 : ((v0 : Int) = 1)) => ?_, fun (c194 : (¬ ((v0 : Int) = 1))) => ?_⟩
            ·
              refine ⟨⟨_, rfl, (by decide)⟩, ?_⟩
              refine Call_wp (lv := [some (vr 235)]) (by decide) ckX12_loadNow [] rfl rfl ?_
              refine ⟨_, rfl, (by decide), ?_⟩
              have a195 : -2147483648 ≤ (J 235 13) ∧ (J 235 13) < 2147483648 := hA.1 _ _
              refine ⟨fun (c196 : (((J 235 13) : Int) = 0)) => ?_, fun (c196 : (¬ (((J 235 13) : Int) = 0))) => ?_⟩
              ·
                refine ⟨_, rfl, (by decide), ?_⟩
                have r197 : 0 ≤ (I 235 11) ∧ (I 235 11) ≤ 13 := Rg.f11 hR
                have u198 : (J 235 11) = (I 235 11) := hV _ _ (by first | decide | omega)
                have a199 : -2147483648 ≤ (J 235 11) ∧ (J 235 11) < 2147483648 := hA.1 _ _
                have r200 : 0 ≤ (J 235 11) ∧ (J 235 11) ≤ 13 := Rg.f11 hJ
                refine ⟨_, rfl, (by decide), ?_⟩
                refine ⟨⟨_, rfl, (by decide)⟩, ?_⟩
                refine r_answered (v0 := (J 235 11)) (v1 := (J 235 12)) hF hJ (by omega) (by omega) (fun vr201 hr202 => ?_)
                have hr202 : -2147483648 ≤ vr201 ∧ vr201 < 2147483648 := hr202
                refine ⟨rfl, ?_⟩
                refine ⟨fun (c203 : ((vr201 : Int) < v1)) => ?_, fun (c203 : (¬ ((vr201 : Int) < v1))) => ?_⟩
                ·
                  refine ⟨_, rfl, (by decide), ?_⟩
                  refine ⟨_, rfl, (by decide), ?_⟩
                  have n204 : (wr ((J 235 12) + 1)) = (J 235 12) + 1 := wr_id (show -2147483648 ≤ ((J 235 12) + 1 : Int) ∧ ((J 235 12) + 1 : Int) < 2147483648 from by omega)
                  have p205 : (0 : Int) ≤ (wr ((J 235 12) + 1)) ∧ ((wr ((J 235 12) + 1)) : Int) ≤ 20000000 := by first | omega | (simp only [wr, wl] at *; omega)
                  refine ⟨⟨_, rfl, (by decide)⟩, ?_⟩
                  refine r_tick  hF (Rg.u hJ (Pr_x12 p205)) (show (J 235 16) ≤ 19999999 from by first | with_reducible assumption | omega | (simp only [wr, wl] at *; omega)) (fun I206 hR207 hA208 hW209 q210 => ?_)
                  have q210 : (I206 235 16) = (J 235 16) + 1 := q210
                  have n211 : (wr (k + 1)) = k + 1 := wr_id (show -2147483648 ≤ (k + 1 : Int) ∧ (k + 1 : Int) < 2147483648 from by omega)
                  have r212 : 0 ≤ (I206 235 16) ∧ (I206 235 16) ≤ 20000000 := Rg.f16 hR207
                  have u214 : (I206 235 12) = ((uI J 235 12 (wr ((J 235 12) + 1))) 235 12) := hW209 _ _ (by first | decide | omega)
                  have u215 : ((uI J 235 12 (wr ((J 235 12) + 1))) 235 12) = (wr ((J 235 12) + 1)) := rfl
                  have a216 : -2147483648 ≤ (I206 235 12) ∧ (I206 235 12) < 2147483648 := hA208.1 _ _
                  have r217 : 0 ≤ (I206 235 12) ∧ (I206 235 12) ≤ 20000000 := Rg.f12 hR207
                  exact ih tm (wr (k + 1)) I206 hR207 (fun ka ja hk => ((hW209 ka ja (by omega))).trans (((uI_o (show ¬ (ka = 235 ∧ ja = 12) from by first | (intro e; obtain ⟨rfl, rfl⟩ := e; exact hk (by decide)) | omega))).trans ((hV ka ja (by omega))))) (show (tm : Int) ≤ 300000 from by first | with_reducible assumption | omega | (simp only [wr, wl] at *; omega)) (show (0 : Int) ≤ (wr (k + 1)) from by first | with_reducible assumption | omega | (simp only [wr, wl] at *; omega)) (show ((wr (k + 1)) : Int) ≤ 300000 from by first | with_reducible assumption | omega | (simp only [wr, wl] at *; omega)) (show (I206 235 16) ≤ B + (wr (k + 1)) from by first | with_reducible assumption | omega | (simp only [wr, wl] at *; omega)) (show (I206 235 12) ≤ B + (wr (k + 1)) from by first | with_reducible assumption | omega | (simp only [wr, wl] at *; omega)) (show (tm - (wr (k + 1))).toNat < mz from by omega)
                ·
                  exact ⟨rfl, hQ _ hJ (fun ka ja hk => (hV ka ja (by omega))) (show (J 235 16) ≤ B + 300000 from by first | with_reducible assumption | omega | (simp only [wr, wl] at *; omega)) (show (J 235 12) ≤ B + 300000 from by first | with_reducible assumption | omega | (simp only [wr, wl] at *; omega))⟩
              ·
                refine ⟨rfl, ?_⟩
                refine ⟨fun (c218 : ((0 : Int) < v1)) => ?_, fun (c218 : (¬ ((0 : Int) < v1))) => ?_⟩
                ·
                  refine ⟨_, rfl, (by decide), ?_⟩
                  refine ⟨_, rfl, (by decide), ?_⟩
                  have n219 : (wr ((J 235 12) + 1)) = (J 235 12) + 1 := wr_id (show -2147483648 ≤ ((J 235 12) + 1 : Int) ∧ ((J 235 12) + 1 : Int) < 2147483648 from by omega)
                  have p220 : (0 : Int) ≤ (wr ((J 235 12) + 1)) ∧ ((wr ((J 235 12) + 1)) : Int) ≤ 20000000 := by first | omega | (simp only [wr, wl] at *; omega)
                  refine ⟨⟨_, rfl, (by decide)⟩, ?_⟩
                  refine r_tick  hF (Rg.u hJ (Pr_x12 p220)) (show (J 235 16) ≤ 19999999 from by first | with_reducible assumption | omega | (simp only [wr, wl] at *; omega)) (fun I221 hR222 hA223 hW224 q225 => ?_)
                  have q225 : (I221 235 16) = (J 235 16) + 1 := q225
                  have n226 : (wr (k + 1)) = k + 1 := wr_id (show -2147483648 ≤ (k + 1 : Int) ∧ (k + 1 : Int) < 2147483648 from by omega)
                  have r227 : 0 ≤ (I221 235 16) ∧ (I221 235 16) ≤ 20000000 := Rg.f16 hR222
                  have u229 : (I221 235 12) = ((uI J 235 12 (wr ((J 235 12) + 1))) 235 12) := hW224 _ _ (by first | decide | omega)
                  have u230 : ((uI J 235 12 (wr ((J 235 12) + 1))) 235 12) = (wr ((J 235 12) + 1)) := rfl
                  have a231 : -2147483648 ≤ (I221 235 12) ∧ (I221 235 12) < 2147483648 := hA223.1 _ _
                  have r232 : 0 ≤ (I221 235 12) ∧ (I221 235 12) ≤ 20000000 := Rg.f12 hR222
                  exact ih tm (wr (k + 1)) I221 hR222 (fun ka ja hk => ((hW224 ka ja (by omega))).trans (((uI_o (show ¬ (ka = 235 ∧ ja = 12) from by first | (intro e; obtain ⟨rfl, rfl⟩ := e; exact hk (by decide)) | omega))).trans ((hV ka ja (by omega))))) (show (tm : Int) ≤ 300000 from by first | with_reducible assumption | omega | (simp only [wr, wl] at *; omega)) (show (0 : Int) ≤ (wr (k + 1)) from by first | with_reducible assumption | omega | (simp only [wr, wl] at *; omega)) (show ((wr (k + 1)) : Int) ≤ 300000 from by first | with_reducible assumption | omega | (simp only [wr, wl] at *; omega)) (show (I221 235 16) ≤ B + (wr (k + 1)) from by first | with_reducible assumption | omega | (simp only [wr, wl] at *; omega)) (show (I221 235 12) ≤ B + (wr (k + 1)) from by first | with_reducible assumption | omega | (simp only [wr, wl] at *; omega)) (show (tm - (wr (k + 1))).toNat < mz from by omega)
                ·
                  exact ⟨rfl, hQ _ hJ (fun ka ja hk => (hV ka ja (by omega))) (show (J 235 16) ≤ B + 300000 from by first | with_reducible assumption | omega | (simp only [wr, wl] at *; omega)) (show (J 235 12) ≤ B + 300000 from by first | with_reducible assumption | omega | (simp only [wr, wl] at *; omega))⟩
            ·
              refine ⟨fun (c233 : ((v0 : Int) = 2)) => ?_, fun (c233 : (¬ ((v0 : Int) = 2))) => ?_⟩
              ·
                refine ⟨_, rfl, (by decide), ?_⟩
                refine ⟨_, rfl, (by decide), ?_⟩
                refine ⟨_, rfl, (by decide), ?_⟩
                refine ⟨_, rfl, (by decide), ?_⟩
                have r234 : 0 ≤ (I 235 11) ∧ (I 235 11) ≤ 13 := Rg.f11 hR
                have u235 : (J 235 11) = (I 235 11) := hV _ _ (by first | decide | omega)
                have a236 : -2147483648 ≤ (J 235 11) ∧ (J 235 11) < 2147483648 := hA.1 _ _
                have r237 : 0 ≤ (J 235 11) ∧ (J 235 11) ≤ 13 := Rg.f11 hJ
                refine ⟨⟨_, rfl, (by decide)⟩, ?_⟩
                refine r_of (p := (J 235 11)) (f := 0) hF (j := (Int.toNat (304 + 66 * (J 235 11)))) (by omega) (by omega) (by omega) (fun w238 hw239 => ?_)
                have r240 : 0 ≤ (I 236 (Int.toNat (304 + 66 * (J 235 11)))) ∧ (I 236 (Int.toNat (304 + 66 * (J 235 11)))) ≤ 5 := Pn_p0 (p := (Int.toNat (J 235 11))) (by omega) (by omega) (hR.n (Int.toNat (304 + 66 * (J 235 11))) (by omega))
                have u241 : (J 236 (Int.toNat (304 + 66 * (J 235 11)))) = (I 236 (Int.toNat (304 + 66 * (J 235 11)))) := hV _ _ (by first | decide | omega)
                have a242 : -2147483648 ≤ (J 236 (Int.toNat (304 + 66 * (J 235 11)))) ∧ (J 236 (Int.toNat (304 + 66 * (J 235 11)))) < 2147483648 := hA.1 _ _
                have r243 : 0 ≤ (J 236 (Int.toNat (304 + 66 * (J 235 11)))) ∧ (J 236 (Int.toNat (304 + 66 * (J 235 11)))) ≤ 5 := Pn_p0 (p := (Int.toNat (J 235 11))) (by omega) (by omega) (hJ.n (Int.toNat (304 + 66 * (J 235 11))) (by omega))
                have hw239 : w238 = (J 236 (Int.toNat (304 + 66 * (J 235 11)))) := hw239
                refine ⟨fun (c245 : (¬ (w238 : Int) = 3)) => ?_, fun (c245 : ((w238 : Int) = 3)) => ?_⟩
                ·
                  refine ⟨_, rfl, (by decide), ?_⟩
                  have n246 : (wr ((J 235 12) + 0)) = (J 235 12) + 0 := wr_id (show -2147483648 ≤ ((J 235 12) + 0 : Int) ∧ ((J 235 12) + 0 : Int) < 2147483648 from by omega)
                  have p247 : (0 : Int) ≤ (wr ((J 235 12) + 0)) ∧ ((wr ((J 235 12) + 0)) : Int) ≤ 20000000 := by first | omega | (simp only [wr, wl] at *; omega)
                  refine ⟨⟨_, rfl, (by decide)⟩, ?_⟩
                  refine r_tick  hF (Rg.u (Rg.u hJ (Pr_f rfl)) (Pr_x12 p247)) (show (J 235 16) ≤ 19999999 from by first | with_reducible assumption | omega | (simp only [wr, wl] at *; omega)) (fun I248 hR249 hA250 hW251 q252 => ?_)
                  have q252 : (I248 235 16) = (J 235 16) + 1 := q252
                  have n253 : (wr (k + 1)) = k + 1 := wr_id (show -2147483648 ≤ (k + 1 : Int) ∧ (k + 1 : Int) < 2147483648 from by omega)
                  have r254 : 0 ≤ (I248 235 16) ∧ (I248 235 16) ≤ 20000000 := Rg.f16 hR249
                  have u256 : (I248 235 12) = ((uI (uI J 235 17 (wr ((J 235 17) + 1))) 235 12 (wr ((J 235 12) + 0))) 235 12) := hW251 _ _ (by first | decide | omega)
                  have u257 : ((uI (uI J 235 17 (wr ((J 235 17) + 1))) 235 12 (wr ((J 235 12) + 0))) 235 12) = (wr ((J 235 12) + 0)) := rfl
                  have a258 : -2147483648 ≤ (I248 235 12) ∧ (I248 235 12) < 2147483648 := hA250.1 _ _
                  have r259 : 0 ≤ (I248 235 12) ∧ (I248 235 12) ≤ 20000000 := Rg.f12 hR249
                  exact ih tm (wr (k + 1)) I248 hR249 (fun ka ja hk => ((hW251 ka ja (by omega))).trans (((uI_o (show ¬ (ka = 235 ∧ ja = 12) from by first | (intro e; obtain ⟨rfl, rfl⟩ := e; exact hk (by decide)) | omega))).trans (((uI_o (show ¬ (ka = 235 ∧ ja = 17) from by first | (intro e; obtain ⟨rfl, rfl⟩ := e; exact hk (by decide)) | omega))).trans ((hV ka ja (by omega)))))) (show (tm : Int) ≤ 300000 from by first | with_reducible assumption | omega | (simp only [wr, wl] at *; omega)) (show (0 : Int) ≤ (wr (k + 1)) from by first | with_reducible assumption | omega | (simp only [wr, wl] at *; omega)) (show ((wr (k + 1)) : Int) ≤ 300000 from by first | with_reducible assumption | omega | (simp only [wr, wl] at *; omega)) (show (I248 235 16) ≤ B + (wr (k + 1)) from by first | with_reducible assumption | omega | (simp only [wr, wl] at *; omega)) (show (I248 235 12) ≤ B + (wr (k + 1)) from by first | with_reducible assumption | omega | (simp only [wr, wl] at *; omega)) (show (tm - (wr (k + 1))).toNat < mz from by omega)
                ·
                  refine ⟨_, rfl, (by decide), ?_⟩
                  refine ⟨(by decide), ?_⟩
                  have a260 : -2147483648 ≤ (J 235 17) ∧ (J 235 17) < 2147483648 := hA.1 _ _
                  have n261 : -2147483648 ≤ (wr ((J 235 17) + 1)) ∧ (wr ((J 235 17) + 1)) < 2147483648 := wr_R _
                  have n262 : -5 < (Int.tmod (wr ((J 235 17) + 1)) 5) ∧ (Int.tmod (wr ((J 235 17) + 1)) 5) < 5 := tm_b (by decide)
                  refine ⟨fun (c263 : (¬ ((Int.tmod (wr ((J 235 17) + 1)) 5) : Int) = 0)) => ?_, fun (c263 : (((Int.tmod (wr ((J 235 17) + 1)) 5) : Int) = 0)) => ?_⟩
                  ·
                    refine ⟨_, rfl, (by decide), ?_⟩
                    have n264 : (wr ((J 235 12) + 0)) = (J 235 12) + 0 := wr_id (show -2147483648 ≤ ((J 235 12) + 0 : Int) ∧ ((J 235 12) + 0 : Int) < 2147483648 from by omega)
                    have p265 : (0 : Int) ≤ (wr ((J 235 12) + 0)) ∧ ((wr ((J 235 12) + 0)) : Int) ≤ 20000000 := by first | omega | (simp only [wr, wl] at *; omega)
                    refine ⟨⟨_, rfl, (by decide)⟩, ?_⟩
                    refine r_tick  hF (Rg.u (Rg.u hJ (Pr_f rfl)) (Pr_x12 p265)) (show (J 235 16) ≤ 19999999 from by first | with_reducible assumption | omega | (simp only [wr, wl] at *; omega)) (fun I266 hR267 hA268 hW269 q270 => ?_)
                    have q270 : (I266 235 16) = (J 235 16) + 1 := q270
                    have n271 : (wr (k + 1)) = k + 1 := wr_id (show -2147483648 ≤ (k + 1 : Int) ∧ (k + 1 : Int) < 2147483648 from by omega)
                    have r272 : 0 ≤ (I266 235 16) ∧ (I266 235 16) ≤ 20000000 := Rg.f16 hR267
                    have u274 : (I266 235 12) = ((uI (uI J 235 17 (wr ((J 235 17) + 1))) 235 12 (wr ((J 235 12) + 0))) 235 12) := hW269 _ _ (by first | decide | omega)
                    have u275 : ((uI (uI J 235 17 (wr ((J 235 17) + 1))) 235 12 (wr ((J 235 12) + 0))) 235 12) = (wr ((J 235 12) + 0)) := rfl
                    have a276 : -2147483648 ≤ (I266 235 12) ∧ (I266 235 12) < 2147483648 := hA268.1 _ _
                    have r277 : 0 ≤ (I266 235 12) ∧ (I266 235 12) ≤ 20000000 := Rg.f12 hR267
                    exact ih tm (wr (k + 1)) I266 hR267 (fun ka ja hk => ((hW269 ka ja (by omega))).trans (((uI_o (show ¬ (ka = 235 ∧ ja = 12) from by first | (intro e; obtain ⟨rfl, rfl⟩ := e; exact hk (by decide)) | omega))).trans (((uI_o (show ¬ (ka = 235 ∧ ja = 17) from by first | (intro e; obtain ⟨rfl, rfl⟩ := e; exact hk (by decide)) | omega))).trans ((hV ka ja (by omega)))))) (show (tm : Int) ≤ 300000 from by first | with_reducible assumption | omega | (simp only [wr, wl] at *; omega)) (show (0 : Int) ≤ (wr (k + 1)) from by first | with_reducible assumption | omega | (simp only [wr, wl] at *; omega)) (show ((wr (k + 1)) : Int) ≤ 300000 from by first | with_reducible assumption | omega | (simp only [wr, wl] at *; omega)) (show (I266 235 16) ≤ B + (wr (k + 1)) from by first | with_reducible assumption | omega | (simp only [wr, wl] at *; omega)) (show (I266 235 12) ≤ B + (wr (k + 1)) from by first | with_reducible assumption | omega | (simp only [wr, wl] at *; omega)) (show (tm - (wr (k + 1))).toNat < mz from by omega)
                  ·
                    refine ⟨_, rfl, (by decide), ?_⟩
                    have n278 : (wr ((J 235 12) + 1)) = (J 235 12) + 1 := wr_id (show -2147483648 ≤ ((J 235 12) + 1 : Int) ∧ ((J 235 12) + 1 : Int) < 2147483648 from by omega)
                    have p279 : (0 : Int) ≤ (wr ((J 235 12) + 1)) ∧ ((wr ((J 235 12) + 1)) : Int) ≤ 20000000 := by first | omega | (simp only [wr, wl] at *; omega)
                    refine ⟨⟨_, rfl, (by decide)⟩, ?_⟩
                    refine r_tick  hF (Rg.u (Rg.u hJ (Pr_f rfl)) (Pr_x12 p279)) (show (J 235 16) ≤ 19999999 from by first | with_reducible assumption | omega | (simp only [wr, wl] at *; omega)) (fun I280 hR281 hA282 hW283 q284 => ?_)
                    have q284 : (I280 235 16) = (J 235 16) + 1 := q284
                    have n285 : (wr (k + 1)) = k + 1 := wr_id (show -2147483648 ≤ (k + 1 : Int) ∧ (k + 1 : Int) < 2147483648 from by omega)
                    have r286 : 0 ≤ (I280 235 16) ∧ (I280 235 16) ≤ 20000000 := Rg.f16 hR281
                    have u288 : (I280 235 12) = ((uI (uI J 235 17 (wr ((J 235 17) + 1))) 235 12 (wr ((J 235 12) + 1))) 235 12) := hW283 _ _ (by first | decide | omega)
                    have u289 : ((uI (uI J 235 17 (wr ((J 235 17) + 1))) 235 12 (wr ((J 235 12) + 1))) 235 12) = (wr ((J 235 12) + 1)) := rfl
                    have a290 : -2147483648 ≤ (I280 235 12) ∧ (I280 235 12) < 2147483648 := hA282.1 _ _
                    have r291 : 0 ≤ (I280 235 12) ∧ (I280 235 12) ≤ 20000000 := Rg.f12 hR281
                    exact ih tm (wr (k + 1)) I280 hR281 (fun ka ja hk => ((hW283 ka ja (by omega))).trans (((uI_o (show ¬ (ka = 235 ∧ ja = 12) from by first | (intro e; obtain ⟨rfl, rfl⟩ := e; exact hk (by decide)) | omega))).trans (((uI_o (show ¬ (ka = 235 ∧ ja = 17) from by first | (intro e; obtain ⟨rfl, rfl⟩ := e; exact hk (by decide)) | omega))).trans ((hV ka ja (by omega)))))) (show (tm : Int) ≤ 300000 from by first | with_reducible assumption | omega | (simp only [wr, wl] at *; omega)) (show (0 : Int) ≤ (wr (k + 1)) from by first | with_reducible assumption | omega | (simp only [wr, wl] at *; omega)) (show ((wr (k + 1)) : Int) ≤ 300000 from by first | with_reducible assumption | omega | (simp only [wr, wl] at *; omega)) (show (I280 235 16) ≤ B + (wr (k + 1)) from by first | with_reducible assumption | omega | (simp only [wr, wl] at *; omega)) (show (I280 235 12) ≤ B + (wr (k + 1)) from by first | with_reducible assumption | omega | (simp only [wr, wl] at *; omega)) (show (tm - (wr (k + 1))).toNat < mz from by omega)
              ·
                refine ⟨fun (c292 : ((v0 : Int) = 3)) => ?_, fun (c292 : (¬ ((v0 : Int) = 3))) => ?_⟩
                ·
                  refine ⟨_, rfl, (by decide), ?_⟩
                  have n293 : (wr ((J 235 12) - 1)) = (J 235 12) - 1 := wr_id (show -2147483648 ≤ ((J 235 12) - 1 : Int) ∧ ((J 235 12) - 1 : Int) < 2147483648 from by omega)
                  refine j_max (fun w294 h295 h296 h297 => ?_)
                  refine ⟨_, rfl, (by decide), ?_⟩
                  have p298 : (0 : Int) ≤ w294 ∧ (w294 : Int) ≤ 20000000 := by first | omega | (simp only [wr, wl] at *; omega)
                  refine ⟨⟨_, rfl, (by decide)⟩, ?_⟩
                  refine r_tick  hF (Rg.u hJ (Pr_x12 p298)) (show (J 235 16) ≤ 19999999 from by first | with_reducible assumption | omega | (simp only [wr, wl] at *; omega)) (fun I299 hR300 hA301 hW302 q303 => ?_)
                  have q303 : (I299 235 16) = (J 235 16) + 1 := q303
                  have n304 : (wr (k + 1)) = k + 1 := wr_id (show -2147483648 ≤ (k + 1 : Int) ∧ (k + 1 : Int) < 2147483648 from by omega)
                  have r305 : 0 ≤ (I299 235 16) ∧ (I299 235 16) ≤ 20000000 := Rg.f16 hR300
                  have u307 : (I299 235 12) = ((uI J 235 12 w294) 235 12) := hW302 _ _ (by first | decide | omega)
                  have u308 : ((uI J 235 12 w294) 235 12) = w294 := rfl
                  have a309 : -2147483648 ≤ (I299 235 12) ∧ (I299 235 12) < 2147483648 := hA301.1 _ _
                  have r310 : 0 ≤ (I299 235 12) ∧ (I299 235 12) ≤ 20000000 := Rg.f12 hR300
                  exact ih tm (wr (k + 1)) I299 hR300 (fun ka ja hk => ((hW302 ka ja (by omega))).trans (((uI_o (show ¬ (ka = 235 ∧ ja = 12) from by first | (intro e; obtain ⟨rfl, rfl⟩ := e; exact hk (by decide)) | omega))).trans ((hV ka ja (by omega))))) (show (tm : Int) ≤ 300000 from by first | with_reducible assumption | omega | (simp only [wr, wl] at *; omega)) (show (0 : Int) ≤ (wr (k + 1)) from by first | with_reducible assumption | omega | (simp only [wr, wl] at *; omega)) (show ((wr (k + 1)) : Int) ≤ 300000 from by first | with_reducible assumption | omega | (simp only [wr, wl] at *; omega)) (show (I299 235 16) ≤ B + (wr (k + 1)) from by first | with_reducible assumption | omega | (simp only [wr, wl] at *; omega)) (show (I299 235 12) ≤ B + (wr (k + 1)) from by first | with_reducible assumption | omega | (simp only [wr, wl] at *; omega)) (show (tm - (wr (k + 1))).toNat < mz from by omega)
                ·
                  refine ⟨fun (c311 : ((v0 : Int) = 4)) => ?_, fun (c311 : (¬ ((v0 : Int) = 4))) => ?_⟩
                  ·
                    refine ⟨⟨_, rfl, (by decide)⟩, ?_⟩
                    refine r_take  hF hJ (fun I312 hR313 hA314 hW315 => ?_)
                    refine ⟨⟨_, rfl, (by decide)⟩, ?_⟩
                    have u316 : (I312 235 16) = (J 235 16) := hW315 _ _ (by first | decide | omega)
                    have a317 : -2147483648 ≤ (I312 235 16) ∧ (I312 235 16) < 2147483648 := hA314.1 _ _
                    have r318 : 0 ≤ (I312 235 16) ∧ (I312 235 16) ≤ 20000000 := Rg.f16 hR313
                    refine r_tick  hF hR313 (show (I312 235 16) ≤ 19999999 from by first | with_reducible assumption | omega | (simp only [wr, wl] at *; omega)) (fun I319 hR320 hA321 hW322 q323 => ?_)
                    have q323 : (I319 235 16) = (I312 235 16) + 1 := q323
                    have n324 : (wr (k + 1)) = k + 1 := wr_id (show -2147483648 ≤ (k + 1 : Int) ∧ (k + 1 : Int) < 2147483648 from by omega)
                    have r325 : 0 ≤ (I319 235 16) ∧ (I319 235 16) ≤ 20000000 := Rg.f16 hR320
                    have u327 : (I312 235 12) = (J 235 12) := hW315 _ _ (by first | decide | omega)
                    have a328 : -2147483648 ≤ (I312 235 12) ∧ (I312 235 12) < 2147483648 := hA314.1 _ _
                    have r329 : 0 ≤ (I312 235 12) ∧ (I312 235 12) ≤ 20000000 := Rg.f12 hR313
                    have u330 : (I319 235 12) = (I312 235 12) := hW322 _ _ (by first | decide | omega)
                    have a331 : -2147483648 ≤ (I319 235 12) ∧ (I319 235 12) < 2147483648 := hA321.1 _ _
                    have r332 : 0 ≤ (I319 235 12) ∧ (I319 235 12) ≤ 20000000 := Rg.f12 hR320
                    exact ih tm (wr (k + 1)) I319 hR320 (fun ka ja hk => ((hW322 ka ja (by omega))).trans (((hW315 ka ja (by omega))).trans ((hV ka ja (by omega))))) (show (tm : Int) ≤ 300000 from by first | with_reducible assumption | omega | (simp only [wr, wl] at *; omega)) (show (0 : Int) ≤ (wr (k + 1)) from by first | with_reducible assumption | omega | (simp only [wr, wl] at *; omega)) (show ((wr (k + 1)) : Int) ≤ 300000 from by first | with_reducible assumption | omega | (simp only [wr, wl] at *; omega)) (show (I319 235 16) ≤ B + (wr (k + 1)) from by first | with_reducible assumption | omega | (simp only [wr, wl] at *; omega)) (show (I319 235 12) ≤ B + (wr (k + 1)) from by first | with_reducible assumption | omega | (simp only [wr, wl] at *; omega)) (show (tm - (wr (k + 1))).toNat < mz from by omega)
                  ·
                    refine ⟨_, rfl, (by decide), ?_⟩
                    refine ⟨fun (c333 : (((J 235 12) : Int) < v1)) => ?_, fun (c333 : (¬ (((J 235 12) : Int) < v1))) => ?_⟩
                    ·
                      refine ⟨_, rfl, (by decide), ?_⟩
                      refine ⟨_, rfl, (by decide), ?_⟩
                      have n334 : (wr ((J 235 12) + 1)) = (J 235 12) + 1 := wr_id (show -2147483648 ≤ ((J 235 12) + 1 : Int) ∧ ((J 235 12) + 1 : Int) < 2147483648 from by omega)
                      have p335 : (0 : Int) ≤ (wr ((J 235 12) + 1)) ∧ ((wr ((J 235 12) + 1)) : Int) ≤ 20000000 := by first | omega | (simp only [wr, wl] at *; omega)
                      refine ⟨⟨_, rfl, (by decide)⟩, ?_⟩
                      refine r_tick  hF (Rg.u hJ (Pr_x12 p335)) (show (J 235 16) ≤ 19999999 from by first | with_reducible assumption | omega | (simp only [wr, wl] at *; omega)) (fun I336 hR337 hA338 hW339 q340 => ?_)
                      have q340 : (I336 235 16) = (J 235 16) + 1 := q340
                      have n341 : (wr (k + 1)) = k + 1 := wr_id (show -2147483648 ≤ (k + 1 : Int) ∧ (k + 1 : Int) < 2147483648 from by omega)
                      have r342 : 0 ≤ (I336 235 16) ∧ (I336 235 16) ≤ 20000000 := Rg.f16 hR337
                      have u344 : (I336 235 12) = ((uI J 235 12 (wr ((J 235 12) + 1))) 235 12) := hW339 _ _ (by first | decide | omega)
                      have u345 : ((uI J 235 12 (wr ((J 235 12) + 1))) 235 12) = (wr ((J 235 12) + 1)) := rfl
                      have a346 : -2147483648 ≤ (I336 235 12) ∧ (I336 235 12) < 2147483648 := hA338.1 _ _
                      have r347 : 0 ≤ (I336 235 12) ∧ (I336 235 12) ≤ 20000000 := Rg.f12 hR337
                      exact ih tm (wr (k + 1)) I336 hR337 (fun ka ja hk => ((hW339 ka ja (by omega))).trans (((uI_o (show ¬ (ka = 235 ∧ ja = 12) from by first | (intro e; obtain ⟨rfl, rfl⟩ := e; exact hk (by decide)) | omega))).trans ((hV ka ja (by omega))))) (show (tm : Int) ≤ 300000 from by first | with_reducible assumption | omega | (simp only [wr, wl] at *; omega)) (show (0 : Int) ≤ (wr (k + 1)) from by first | with_reducible assumption | omega | (simp only [wr, wl] at *; omega)) (show ((wr (k + 1)) : Int) ≤ 300000 from by first | with_reducible assumption | omega | (simp only [wr, wl] at *; omega)) (show (I336 235 16) ≤ B + (wr (k + 1)) from by first | with_reducible assumption | omega | (simp only [wr, wl] at *; omega)) (show (I336 235 12) ≤ B + (wr (k + 1)) from by first | with_reducible assumption | omega | (simp only [wr, wl] at *; omega)) (show (tm - (wr (k + 1))).toNat < mz from by omega)
                    ·
                      exact ⟨rfl, hQ _ hJ (fun ka ja hk => (hV ka ja (by omega))) (show (J 235 16) ≤ B + 300000 from by first | with_reducible assumption | omega | (simp only [wr, wl] at *; omega)) (show (J 235 12) ≤ B + 300000 from by first | with_reducible assumption | omega | (simp only [wr, wl] at *; omega))⟩
theorem r_does (hF : FS F) (hR : Rg I) {v0 v1 : Int} (B : Int) (hB : 0 ≤ B ∧ B ≤ 19000000) (hn : v1 ≤ 300000) (hb : I 235 16 ≤ B) (hx : I 235 12 ≤ B) (hQ : ∀ (I' : pI), Rg I' → AR I' → (∀ k j, ¬ ((k = 235 ∧ 12 ≤ j ∧ j ≤ 18) ∨ (242 ≤ k ∧ k ≤ 244)) → I' k j = I k j) → ((I' 235 16) ≤ B + 300000) → ((I' 235 12) ≤ B + 300000) → Q none F I') : CallN G (d + 5) kX12_does [vr 235, vi v0, vi v1] NP F I Q := by
  refine CallN_in (fun hok hA => CallN_out ?_)
  have iv0 : -2147483648 ≤ v0 ∧ v0 < 2147483648 := hok (vi v0) (by simp)
  have iv1 : -2147483648 ≤ v1 ∧ v1 < 2147483648 := hok (vi v1) (by simp)
  refine Call_wp (lv := [some (vr 235), some (vi v0), some (vi v1), none, none]) (by decide) ckX12_does [30] rfl rfl ?_
  refine ⟨fun (c1 : (¬ (v0 : Int) = 4)) => ?_, fun (c1 : ((v0 : Int) = 4)) => ?_⟩
  ·
    refine ⟨fun (c2 : ((v0 : Int) = 1)) => ?_, fun (c2 : (¬ ((v0 : Int) = 1))) => ?_⟩
    ·
      have r3 : 0 ≤ (I 235 16) ∧ (I 235 16) ≤ 20000000 := Rg.f16 hR
      have r5 : 0 ≤ (I 235 12) ∧ (I 235 12) ≤ 20000000 := Rg.f12 hR
      refine r_does_l hF hR B hB (fun I' g1 g2 g3 g4 hv hA' => hQ _ g1 hA' g2 g3 g4) _ 300 0 I hR (fun _ _ _ => rfl) (show ((300 : Int) : Int) ≤ 300000 from by first | with_reducible assumption | omega | (simp only [wr, wl] at *; omega)) (show (0 : Int) ≤ (0 : Int) from Int.le_refl _) (show ((0 : Int) : Int) ≤ 300000 from by first | with_reducible assumption | omega | (simp only [wr, wl] at *; omega)) (show (I 235 16) ≤ B + (0 : Int) from by first | with_reducible assumption | omega | (simp only [wr, wl] at *; omega)) (show (I 235 12) ≤ B + (0 : Int) from by first | with_reducible assumption | omega | (simp only [wr, wl] at *; omega)) (Nat.lt_succ_self _)
    ·
      refine ⟨fun (c7 : (¬ (v0 : Int) = 5)) => ?_, fun (c7 : ((v0 : Int) = 5)) => ?_⟩
      ·
        have r8 : 0 ≤ (I 235 16) ∧ (I 235 16) ≤ 20000000 := Rg.f16 hR
        have r10 : 0 ≤ (I 235 12) ∧ (I 235 12) ≤ 20000000 := Rg.f12 hR
        refine r_does_l hF hR B hB (fun I' g1 g2 g3 g4 hv hA' => hQ _ g1 hA' g2 g3 g4) _ v1 0 I hR (fun _ _ _ => rfl) (show (v1 : Int) ≤ 300000 from by first | with_reducible assumption | omega | (simp only [wr, wl] at *; omega)) (show (0 : Int) ≤ (0 : Int) from Int.le_refl _) (show ((0 : Int) : Int) ≤ 300000 from by first | with_reducible assumption | omega | (simp only [wr, wl] at *; omega)) (show (I 235 16) ≤ B + (0 : Int) from by first | with_reducible assumption | omega | (simp only [wr, wl] at *; omega)) (show (I 235 12) ≤ B + (0 : Int) from by first | with_reducible assumption | omega | (simp only [wr, wl] at *; omega)) (Nat.lt_succ_self _)
      ·
        have r12 : 0 ≤ (I 235 16) ∧ (I 235 16) ≤ 20000000 := Rg.f16 hR
        have r14 : 0 ≤ (I 235 12) ∧ (I 235 12) ≤ 20000000 := Rg.f12 hR
        refine r_does_l hF hR B hB (fun I' g1 g2 g3 g4 hv hA' => hQ _ g1 hA' g2 g3 g4) _ 300 0 I hR (fun _ _ _ => rfl) (show ((300 : Int) : Int) ≤ 300000 from by first | with_reducible assumption | omega | (simp only [wr, wl] at *; omega)) (show (0 : Int) ≤ (0 : Int) from Int.le_refl _) (show ((0 : Int) : Int) ≤ 300000 from by first | with_reducible assumption | omega | (simp only [wr, wl] at *; omega)) (show (I 235 16) ≤ B + (0 : Int) from by first | with_reducible assumption | omega | (simp only [wr, wl] at *; omega)) (show (I 235 12) ≤ B + (0 : Int) from by first | with_reducible assumption | omega | (simp only [wr, wl] at *; omega)) (Nat.lt_succ_self _)
  ·
    have r16 : 0 ≤ (I 235 16) ∧ (I 235 16) ≤ 20000000 := Rg.f16 hR
    have r18 : 0 ≤ (I 235 12) ∧ (I 235 12) ≤ 20000000 := Rg.f12 hR
    refine r_does_l hF hR B hB (fun I' g1 g2 g3 g4 hv hA' => hQ _ g1 hA' g2 g3 g4) _ 1 0 I hR (fun _ _ _ => rfl) (show ((1 : Int) : Int) ≤ 300000 from by first | with_reducible assumption | omega | (simp only [wr, wl] at *; omega)) (show (0 : Int) ≤ (0 : Int) from Int.le_refl _) (show ((0 : Int) : Int) ≤ 300000 from by first | with_reducible assumption | omega | (simp only [wr, wl] at *; omega)) (show (I 235 16) ≤ B + (0 : Int) from by first | with_reducible assumption | omega | (simp only [wr, wl] at *; omega)) (show (I 235 12) ≤ B + (0 : Int) from by first | with_reducible assumption | omega | (simp only [wr, wl] at *; omega)) (Nat.lt_succ_self _)
theorem r_go_l2 (hF : FS F) (hR : Rg I) {v0 v1 : Int} (hg : 0 ≤ v0 ∧ v0 ≤ 3) (hQ : ∀ (r : Int) (I' : pI), Rg I' → (∀ k j, ¬ ((k = 235 ∧ 11 ≤ j ∧ j ≤ 18) ∨ (242 ≤ k ∧ k ≤ 244)) → I' k j = I k j) → Q (some (vi r)) F I') : ∀ (mz : Nat) (k e : Int) (J : pI), Rg J → (∀ k j, ¬ ((k = 235 ∧ 11 ≤ j ∧ j ≤ 18) ∨ (242 ≤ k ∧ k ≤ 244)) → J k j = I k j) → ((0 : Int) ≤ k) → ((k : Int) ≤ 17) → ((J 235 16) ≤ 5100000 + 300000 * k) → ((J 235 12) ≤ 5100000 + 300000 * k) → (17 - k).toNat < mz → GoN G (d + 6) kX12_goThrough NP NP 142 [some (vr 235), some (vi v0), some (vi v1), some (vi (wr (40 + (wr (36 * v0))))), some (vi k), some (vi e)] [] F J Q := by
  intro mz
  induction mz with
  | zero => intro k e J hJ hV _ _ _ _ h; exact absurd h (Nat.not_lt_zero _)
  | succ mz ih =>
    intro k e J hJ hV c100 c101 c102 c103 hm
    refine GoN_in (fun hok hA => ?_)
    have iiv0 : -2147483648 ≤ v0 ∧ v0 < 2147483648 := hok 1 _ rfl
    have iiv1 : -2147483648 ≤ v1 ∧ v1 < 2147483648 := hok 2 _ rfl
    have iik : -2147483648 ≤ k ∧ k < 2147483648 := hok 4 _ rfl
    have iie : -2147483648 ≤ e ∧ e < 2147483648 := hok 5 _ rfl
    have r1 : 0 ≤ (J 235 16) ∧ (J 235 16) ≤ 20000000 := Rg.f16 hJ
    have r3 : 0 ≤ (J 235 12) ∧ (J 235 12) ≤ 20000000 := Rg.f12 hJ
    refine Go_wp (by decide) ckX12_goThrough [142] ?_
    refine ⟨_, rfl, (by decide), ?_⟩
    refine fun w0 hw0 => ?_; obtain rfl : w0 = some 236 := hw0.symm.trans (FS.g hF rfl)
    have n5 : (wr (36 * v0)) = 36 * v0 := wr_id (show -2147483648 ≤ (36 * v0 : Int) ∧ (36 * v0 : Int) < 2147483648 from by omega)
    have n6 : (wr (40 + (wr (36 * v0)))) = 40 + (wr (36 * v0)) := wr_id (show -2147483648 ≤ (40 + (wr (36 * v0)) : Int) ∧ (40 + (wr (36 * v0)) : Int) < 2147483648 from by omega)
    have n7 : (wr ((wr (40 + (wr (36 * v0)))) + 0)) = (wr (40 + (wr (36 * v0)))) + 0 := wr_id (show -2147483648 ≤ ((wr (40 + (wr (36 * v0)))) + 0 : Int) ∧ ((wr (40 + (wr (36 * v0)))) + 0 : Int) < 2147483648 from by omega)
    refine ⟨_, rfl, (by decide), (show (0 : Int) ≤ (wr ((wr (40 + (wr (36 * v0)))) + 0)) from by first | with_reducible assumption | omega | (simp only [wr, wl] at *; omega)), (show (wr ((wr (40 + (wr (36 * v0)))) + 0)) < (1340 : Int) from by first | with_reducible assumption | omega | (simp only [wr, wl] at *; omega)), ?_⟩
    have r8 : 0 ≤ (I 236 (Int.toNat (wr ((wr (40 + (wr (36 * v0)))) + 0)))) ∧ (I 236 (Int.toNat (wr ((wr (40 + (wr (36 * v0)))) + 0)))) ≤ 17 := Pn_g0 (p := (Int.toNat v0)) (by omega) (by omega) (hR.n (Int.toNat (wr ((wr (40 + (wr (36 * v0)))) + 0))) (by omega))
    have u9 : (J 236 (Int.toNat (wr ((wr (40 + (wr (36 * v0)))) + 0)))) = (I 236 (Int.toNat (wr ((wr (40 + (wr (36 * v0)))) + 0)))) := hV _ _ (by first | decide | omega)
    have a10 : -2147483648 ≤ (J 236 (Int.toNat (wr ((wr (40 + (wr (36 * v0)))) + 0)))) ∧ (J 236 (Int.toNat (wr ((wr (40 + (wr (36 * v0)))) + 0)))) < 2147483648 := hA.1 _ _
    have r11 : 0 ≤ (J 236 (Int.toNat (wr ((wr (40 + (wr (36 * v0)))) + 0)))) ∧ (J 236 (Int.toNat (wr ((wr (40 + (wr (36 * v0)))) + 0)))) ≤ 17 := Pn_g0 (p := (Int.toNat v0)) (by omega) (by omega) (hJ.n (Int.toNat (wr ((wr (40 + (wr (36 * v0)))) + 0))) (by omega))
    refine ⟨fun (c12 : (((J 236 (Int.toNat (wr ((wr (40 + (wr (36 * v0)))) + 0)))) : Int) ≤ k)) => ?_, fun (c12 : (¬ (((J 236 (Int.toNat (wr ((wr (40 + (wr (36 * v0)))) + 0)))) : Int) ≤ k))) => ?_⟩
    ·
      exact ⟨rfl, hQ _ _ hJ (fun ka ja hk => (hV ka ja (by omega)))⟩
    ·
      refine ⟨_, rfl, (by decide), ?_⟩
      refine fun w0 hw0 => ?_; obtain rfl : w0 = some 236 := hw0.symm.trans (FS.g hF rfl)
      have n13 : (wr ((wr (40 + (wr (36 * v0)))) + 2)) = (wr (40 + (wr (36 * v0)))) + 2 := wr_id (show -2147483648 ≤ ((wr (40 + (wr (36 * v0)))) + 2 : Int) ∧ ((wr (40 + (wr (36 * v0)))) + 2 : Int) < 2147483648 from by omega)
      have n14 : (wr (2 * k)) = 2 * k := wr_id (show -2147483648 ≤ (2 * k : Int) ∧ (2 * k : Int) < 2147483648 from by omega)
      have n15 : (wr ((wr ((wr (40 + (wr (36 * v0)))) + 2)) + (wr (2 * k)))) = (wr ((wr (40 + (wr (36 * v0)))) + 2)) + (wr (2 * k)) := wr_id (show -2147483648 ≤ ((wr ((wr (40 + (wr (36 * v0)))) + 2)) + (wr (2 * k)) : Int) ∧ ((wr ((wr (40 + (wr (36 * v0)))) + 2)) + (wr (2 * k)) : Int) < 2147483648 from by omega)
      refine ⟨_, rfl, (by decide), (show (0 : Int) ≤ (wr ((wr ((wr (40 + (wr (36 * v0)))) + 2)) + (wr (2 * k)))) from by first | with_reducible assumption | omega | (simp only [wr, wl] at *; omega)), (show (wr ((wr ((wr (40 + (wr (36 * v0)))) + 2)) + (wr (2 * k)))) < (1340 : Int) from by first | with_reducible assumption | omega | (simp only [wr, wl] at *; omega)), ?_⟩
      have u16 : (J 236 (Int.toNat (wr ((wr ((wr (40 + (wr (36 * v0)))) + 2)) + (wr (2 * k)))))) = (I 236 (Int.toNat (wr ((wr ((wr (40 + (wr (36 * v0)))) + 2)) + (wr (2 * k)))))) := hV _ _ (by first | decide | omega)
      have a17 : -2147483648 ≤ (J 236 (Int.toNat (wr ((wr ((wr (40 + (wr (36 * v0)))) + 2)) + (wr (2 * k)))))) ∧ (J 236 (Int.toNat (wr ((wr ((wr (40 + (wr (36 * v0)))) + 2)) + (wr (2 * k)))))) < 2147483648 := hA.1 _ _
      refine ⟨_, rfl, (by decide), ?_⟩
      refine fun w0 hw0 => ?_; obtain rfl : w0 = some 236 := hw0.symm.trans (FS.g hF rfl)
      have n18 : (wr ((wr ((wr ((wr (40 + (wr (36 * v0)))) + 2)) + (wr (2 * k)))) + 1)) = (wr ((wr ((wr (40 + (wr (36 * v0)))) + 2)) + (wr (2 * k)))) + 1 := wr_id (show -2147483648 ≤ ((wr ((wr ((wr (40 + (wr (36 * v0)))) + 2)) + (wr (2 * k)))) + 1 : Int) ∧ ((wr ((wr ((wr (40 + (wr (36 * v0)))) + 2)) + (wr (2 * k)))) + 1 : Int) < 2147483648 from by omega)
      refine ⟨_, rfl, (by decide), (show (0 : Int) ≤ (wr ((wr ((wr ((wr (40 + (wr (36 * v0)))) + 2)) + (wr (2 * k)))) + 1)) from by first | with_reducible assumption | omega | (simp only [wr, wl] at *; omega)), (show (wr ((wr ((wr ((wr (40 + (wr (36 * v0)))) + 2)) + (wr (2 * k)))) + 1)) < (1340 : Int) from by first | with_reducible assumption | omega | (simp only [wr, wl] at *; omega)), ?_⟩
      have r19 : (I 236 (Int.toNat (wr ((wr ((wr ((wr (40 + (wr (36 * v0)))) + 2)) + (wr (2 * k)))) + 1)))) ≤ 300000 := Pn_ga2 (p := Int.toNat ((wr ((wr ((wr ((wr (40 + (wr (36 * v0)))) + 2)) + (wr (2 * k)))) + 1)) - 40)) (by omega) (by omega) (hR.n (Int.toNat (wr ((wr ((wr ((wr (40 + (wr (36 * v0)))) + 2)) + (wr (2 * k)))) + 1))) (by omega))
      have u20 : (J 236 (Int.toNat (wr ((wr ((wr ((wr (40 + (wr (36 * v0)))) + 2)) + (wr (2 * k)))) + 1)))) = (I 236 (Int.toNat (wr ((wr ((wr ((wr (40 + (wr (36 * v0)))) + 2)) + (wr (2 * k)))) + 1)))) := hV _ _ (by first | decide | omega)
      have a21 : -2147483648 ≤ (J 236 (Int.toNat (wr ((wr ((wr ((wr (40 + (wr (36 * v0)))) + 2)) + (wr (2 * k)))) + 1)))) ∧ (J 236 (Int.toNat (wr ((wr ((wr ((wr (40 + (wr (36 * v0)))) + 2)) + (wr (2 * k)))) + 1)))) < 2147483648 := hA.1 _ _
      have r22 : (J 236 (Int.toNat (wr ((wr ((wr ((wr (40 + (wr (36 * v0)))) + 2)) + (wr (2 * k)))) + 1)))) ≤ 300000 := Pn_ga2 (p := Int.toNat ((wr ((wr ((wr ((wr (40 + (wr (36 * v0)))) + 2)) + (wr (2 * k)))) + 1)) - 40)) (by omega) (by omega) (hJ.n (Int.toNat (wr ((wr ((wr ((wr (40 + (wr (36 * v0)))) + 2)) + (wr (2 * k)))) + 1))) (by omega))
      refine ⟨⟨_, rfl, (by decide)⟩, ?_⟩
      refine r_does (v0 := (J 236 (Int.toNat (wr ((wr ((wr (40 + (wr (36 * v0)))) + 2)) + (wr (2 * k))))))) (v1 := (J 236 (Int.toNat (wr ((wr ((wr ((wr (40 + (wr (36 * v0)))) + 2)) + (wr (2 * k)))) + 1))))) hF hJ (5100000 + 300000 * k) (by omega) (by omega) (show (J 235 16) ≤ (5100000 + 300000 * k) from by first | with_reducible assumption | omega | (simp only [wr, wl] at *; omega)) (show (J 235 12) ≤ (5100000 + 300000 * k) from by first | with_reducible assumption | omega | (simp only [wr, wl] at *; omega)) (fun I23 hR24 hA25 hW26 q27 q28 => ?_)
      have q27 : (I23 235 16) ≤ ((5100000 + 300000 * k) : Int) + 300000 := q27
      have q28 : (I23 235 12) ≤ ((5100000 + 300000 * k) : Int) + 300000 := q28
      have n29 : (wr (k + 1)) = k + 1 := wr_id (show -2147483648 ≤ (k + 1 : Int) ∧ (k + 1 : Int) < 2147483648 from by omega)
      have r30 : 0 ≤ (I23 235 16) ∧ (I23 235 16) ≤ 20000000 := Rg.f16 hR24
      have r32 : 0 ≤ (I23 235 12) ∧ (I23 235 12) ≤ 20000000 := Rg.f12 hR24
      exact ih (wr (k + 1)) e I23 hR24 (fun ka ja hk => ((hW26 ka ja (by omega))).trans ((hV ka ja (by omega)))) (show (0 : Int) ≤ (wr (k + 1)) from by first | with_reducible assumption | omega | (simp only [wr, wl] at *; omega)) (show ((wr (k + 1)) : Int) ≤ 17 from by first | with_reducible assumption | omega | (simp only [wr, wl] at *; omega)) (show (I23 235 16) ≤ 5100000 + 300000 * (wr (k + 1)) from by first | with_reducible assumption | omega | (simp only [wr, wl] at *; omega)) (show (I23 235 12) ≤ 5100000 + 300000 * (wr (k + 1)) from by first | with_reducible assumption | omega | (simp only [wr, wl] at *; omega)) (show (17 - (wr (k + 1))).toNat < mz from by omega)
theorem r_go_l1 (hF : FS F) (hR : Rg I) {v0 v1 : Int} (hg : 0 ≤ v0 ∧ v0 ≤ 3) (hQ : ∀ (r : Int) (I' : pI), Rg I' → (∀ k j, ¬ ((k = 235 ∧ 11 ≤ j ∧ j ≤ 18) ∨ (242 ≤ k ∧ k ≤ 244)) → I' k j = I k j) → Q (some (vi r)) F I') : ∀ (mz : Nat) (k : Int) (J : pI), Rg J → (∀ k j, ¬ ((k = 235 ∧ 11 ≤ j ∧ j ≤ 18) ∨ (242 ≤ k ∧ k ≤ 244)) → J k j = I k j) → ((0 : Int) ≤ k) → ((k : Int) ≤ 17) → ((J 235 16) ≤ 300000 * k) → ((J 235 12) ≤ 300000 * k) → (17 - k).toNat < mz → GoN G (d + 6) kX12_goThrough NP NP 51 [some (vr 235), some (vi v0), some (vi v1), some (vi (wr (40 + (wr (36 * v0))))), some (vi k), none] [] F J Q := by
  intro mz
  induction mz with
  | zero => intro k J hJ hV _ _ _ _ h; exact absurd h (Nat.not_lt_zero _)
  | succ mz ih =>
    intro k J hJ hV c100 c101 c102 c103 hm
    refine GoN_in (fun hok hA => ?_)
    have iiv0 : -2147483648 ≤ v0 ∧ v0 < 2147483648 := hok 1 _ rfl
    have iiv1 : -2147483648 ≤ v1 ∧ v1 < 2147483648 := hok 2 _ rfl
    have iik : -2147483648 ≤ k ∧ k < 2147483648 := hok 4 _ rfl
    have r1 : 0 ≤ (J 235 16) ∧ (J 235 16) ≤ 20000000 := Rg.f16 hJ
    have r3 : 0 ≤ (J 235 12) ∧ (J 235 12) ≤ 20000000 := Rg.f12 hJ
    refine Go_wp (by decide) ckX12_goThrough [51, 142] ?_
    refine ⟨_, rfl, (by decide), ?_⟩
    refine fun w0 hw0 => ?_; obtain rfl : w0 = some 236 := hw0.symm.trans (FS.g hF rfl)
    have n5 : (wr (36 * v0)) = 36 * v0 := wr_id (show -2147483648 ≤ (36 * v0 : Int) ∧ (36 * v0 : Int) < 2147483648 from by omega)
    have n6 : (wr (40 + (wr (36 * v0)))) = 40 + (wr (36 * v0)) := wr_id (show -2147483648 ≤ (40 + (wr (36 * v0)) : Int) ∧ (40 + (wr (36 * v0)) : Int) < 2147483648 from by omega)
    have n7 : (wr ((wr (40 + (wr (36 * v0)))) + 1)) = (wr (40 + (wr (36 * v0)))) + 1 := wr_id (show -2147483648 ≤ ((wr (40 + (wr (36 * v0)))) + 1 : Int) ∧ ((wr (40 + (wr (36 * v0)))) + 1 : Int) < 2147483648 from by omega)
    refine ⟨_, rfl, (by decide), (show (0 : Int) ≤ (wr ((wr (40 + (wr (36 * v0)))) + 1)) from by first | with_reducible assumption | omega | (simp only [wr, wl] at *; omega)), (show (wr ((wr (40 + (wr (36 * v0)))) + 1)) < (1340 : Int) from by first | with_reducible assumption | omega | (simp only [wr, wl] at *; omega)), ?_⟩
    have r8 : 0 ≤ (I 236 (Int.toNat (wr ((wr (40 + (wr (36 * v0)))) + 1)))) ∧ (I 236 (Int.toNat (wr ((wr (40 + (wr (36 * v0)))) + 1)))) ≤ 17 := Pn_g1 (p := (Int.toNat v0)) (by omega) (by omega) (hR.n (Int.toNat (wr ((wr (40 + (wr (36 * v0)))) + 1))) (by omega))
    have u9 : (J 236 (Int.toNat (wr ((wr (40 + (wr (36 * v0)))) + 1)))) = (I 236 (Int.toNat (wr ((wr (40 + (wr (36 * v0)))) + 1)))) := hV _ _ (by first | decide | omega)
    have a10 : -2147483648 ≤ (J 236 (Int.toNat (wr ((wr (40 + (wr (36 * v0)))) + 1)))) ∧ (J 236 (Int.toNat (wr ((wr (40 + (wr (36 * v0)))) + 1)))) < 2147483648 := hA.1 _ _
    have r11 : 0 ≤ (J 236 (Int.toNat (wr ((wr (40 + (wr (36 * v0)))) + 1)))) ∧ (J 236 (Int.toNat (wr ((wr (40 + (wr (36 * v0)))) + 1)))) ≤ 17 := Pn_g1 (p := (Int.toNat v0)) (by omega) (by omega) (hJ.n (Int.toNat (wr ((wr (40 + (wr (36 * v0)))) + 1))) (by omega))
    refine ⟨fun (c12 : (((J 236 (Int.toNat (wr ((wr (40 + (wr (36 * v0)))) + 1)))) : Int) ≤ k)) => ?_, fun (c12 : (¬ (((J 236 (Int.toNat (wr ((wr (40 + (wr (36 * v0)))) + 1)))) : Int) ≤ k))) => ?_⟩
    ·
      refine ⟨_, rfl, (by decide), ?_⟩
      have a13 : -2147483648 ≤ (J 235 15) ∧ (J 235 15) < 2147483648 := hA.1 _ _
      refine ⟨fun (c14 : (¬ ((J 235 15) : Int) = 0)) => ?_, fun (c14 : (((J 235 15) : Int) = 0)) => ?_⟩
      ·
        refine ⟨_, rfl, (by decide), (by decide), ?_⟩
        refine ⟨_, rfl, (by decide), ?_⟩
        refine fun w0 hw0 => ?_; obtain rfl : w0 = some 236 := hw0.symm.trans (FS.g hF rfl)
        refine ⟨_, rfl, (by decide), (show (0 : Int) ≤ (wr ((wr (40 + (wr (36 * v0)))) + 1)) from by first | with_reducible assumption | omega | (simp only [wr, wl] at *; omega)), (show (wr ((wr (40 + (wr (36 * v0)))) + 1)) < (1340 : Int) from by first | with_reducible assumption | omega | (simp only [wr, wl] at *; omega)), ?_⟩
        have n15 : (wr (k - 1)) = k - 1 := wr_id (show -2147483648 ≤ (k - 1 : Int) ∧ (k - 1 : Int) < 2147483648 from by omega)
        refine r_go_l2 hF hR (by omega) hQ _ (J 236 (Int.toNat (wr ((wr (40 + (wr (36 * v0)))) + 1)))) (wr (k - 1)) (uI J 235 14 1) (Rg.u hJ (Pr_f rfl)) (fun ka ja hk => ((uI_o (show ¬ (ka = 235 ∧ ja = 14) from by first | (intro e; obtain ⟨rfl, rfl⟩ := e; exact hk (by decide)) | omega))).trans ((hV ka ja (by omega)))) (show (0 : Int) ≤ (J 236 (Int.toNat (wr ((wr (40 + (wr (36 * v0)))) + 1)))) from by first | with_reducible assumption | omega | (simp only [wr, wl] at *; omega)) (show ((J 236 (Int.toNat (wr ((wr (40 + (wr (36 * v0)))) + 1)))) : Int) ≤ 17 from by first | with_reducible assumption | omega | (simp only [wr, wl] at *; omega)) (show (J 235 16) ≤ 5100000 + 300000 * (J 236 (Int.toNat (wr ((wr (40 + (wr (36 * v0)))) + 1)))) from by first | with_reducible assumption | omega | (simp only [wr, wl] at *; omega)) (show (J 235 12) ≤ 5100000 + 300000 * (J 236 (Int.toNat (wr ((wr (40 + (wr (36 * v0)))) + 1)))) from by first | with_reducible assumption | omega | (simp only [wr, wl] at *; omega)) (Nat.lt_succ_self _)
      ·
        refine ⟨_, rfl, (by decide), (by decide), ?_⟩
        refine ⟨_, rfl, (by decide), ?_⟩
        refine fun w0 hw0 => ?_; obtain rfl : w0 = some 236 := hw0.symm.trans (FS.g hF rfl)
        refine ⟨_, rfl, (by decide), (show (0 : Int) ≤ (wr ((wr (40 + (wr (36 * v0)))) + 1)) from by first | with_reducible assumption | omega | (simp only [wr, wl] at *; omega)), (show (wr ((wr (40 + (wr (36 * v0)))) + 1)) < (1340 : Int) from by first | with_reducible assumption | omega | (simp only [wr, wl] at *; omega)), ?_⟩
        refine r_go_l2 hF hR (by omega) hQ _ (J 236 (Int.toNat (wr ((wr (40 + (wr (36 * v0)))) + 1)))) k (uI J 235 14 1) (Rg.u hJ (Pr_f rfl)) (fun ka ja hk => ((uI_o (show ¬ (ka = 235 ∧ ja = 14) from by first | (intro e; obtain ⟨rfl, rfl⟩ := e; exact hk (by decide)) | omega))).trans ((hV ka ja (by omega)))) (show (0 : Int) ≤ (J 236 (Int.toNat (wr ((wr (40 + (wr (36 * v0)))) + 1)))) from by first | with_reducible assumption | omega | (simp only [wr, wl] at *; omega)) (show ((J 236 (Int.toNat (wr ((wr (40 + (wr (36 * v0)))) + 1)))) : Int) ≤ 17 from by first | with_reducible assumption | omega | (simp only [wr, wl] at *; omega)) (show (J 235 16) ≤ 5100000 + 300000 * (J 236 (Int.toNat (wr ((wr (40 + (wr (36 * v0)))) + 1)))) from by first | with_reducible assumption | omega | (simp only [wr, wl] at *; omega)) (show (J 235 12) ≤ 5100000 + 300000 * (J 236 (Int.toNat (wr ((wr (40 + (wr (36 * v0)))) + 1)))) from by first | with_reducible assumption | omega | (simp only [wr, wl] at *; omega)) (Nat.lt_succ_self _)
    ·
      refine ⟨_, rfl, (by decide), ?_⟩
      have a16 : -2147483648 ≤ (J 235 15) ∧ (J 235 15) < 2147483648 := hA.1 _ _
      refine ⟨fun (c17 : (¬ ((J 235 15) : Int) = 0)) => ?_, fun (c17 : (((J 235 15) : Int) = 0)) => ?_⟩
      ·
        refine ⟨_, rfl, (by decide), ?_⟩
        refine ⟨fun _ => ?_, fun c => absurd c (show (¬ ((J 235 15) : Int) = 0) from by first | omega | (simp only [wr, wl] at *; omega))⟩
        refine ⟨_, rfl, (by decide), (by decide), ?_⟩
        refine ⟨_, rfl, (by decide), ?_⟩
        refine fun w0 hw0 => ?_; obtain rfl : w0 = some 236 := hw0.symm.trans (FS.g hF rfl)
        refine ⟨_, rfl, (by decide), (show (0 : Int) ≤ (wr ((wr (40 + (wr (36 * v0)))) + 1)) from by first | with_reducible assumption | omega | (simp only [wr, wl] at *; omega)), (show (wr ((wr (40 + (wr (36 * v0)))) + 1)) < (1340 : Int) from by first | with_reducible assumption | omega | (simp only [wr, wl] at *; omega)), ?_⟩
        have n18 : (wr (k - 1)) = k - 1 := wr_id (show -2147483648 ≤ (k - 1 : Int) ∧ (k - 1 : Int) < 2147483648 from by omega)
        refine r_go_l2 hF hR (by omega) hQ _ (J 236 (Int.toNat (wr ((wr (40 + (wr (36 * v0)))) + 1)))) (wr (k - 1)) (uI J 235 14 1) (Rg.u hJ (Pr_f rfl)) (fun ka ja hk => ((uI_o (show ¬ (ka = 235 ∧ ja = 14) from by first | (intro e; obtain ⟨rfl, rfl⟩ := e; exact hk (by decide)) | omega))).trans ((hV ka ja (by omega)))) (show (0 : Int) ≤ (J 236 (Int.toNat (wr ((wr (40 + (wr (36 * v0)))) + 1)))) from by first | with_reducible assumption | omega | (simp only [wr, wl] at *; omega)) (show ((J 236 (Int.toNat (wr ((wr (40 + (wr (36 * v0)))) + 1)))) : Int) ≤ 17 from by first | with_reducible assumption | omega | (simp only [wr, wl] at *; omega)) (show (J 235 16) ≤ 5100000 + 300000 * (J 236 (Int.toNat (wr ((wr (40 + (wr (36 * v0)))) + 1)))) from by first | with_reducible assumption | omega | (simp only [wr, wl] at *; omega)) (show (J 235 12) ≤ 5100000 + 300000 * (J 236 (Int.toNat (wr ((wr (40 + (wr (36 * v0)))) + 1)))) from by first | with_reducible assumption | omega | (simp only [wr, wl] at *; omega)) (Nat.lt_succ_self _)
      ·
        refine ⟨_, rfl, (by decide), ?_⟩
        refine fun w0 hw0 => ?_; obtain rfl : w0 = some 236 := hw0.symm.trans (FS.g hF rfl)
        have n19 : (wr ((wr (40 + (wr (36 * v0)))) + 2)) = (wr (40 + (wr (36 * v0)))) + 2 := wr_id (show -2147483648 ≤ ((wr (40 + (wr (36 * v0)))) + 2 : Int) ∧ ((wr (40 + (wr (36 * v0)))) + 2 : Int) < 2147483648 from by omega)
        have n20 : (wr (2 * k)) = 2 * k := wr_id (show -2147483648 ≤ (2 * k : Int) ∧ (2 * k : Int) < 2147483648 from by omega)
        have n21 : (wr ((wr ((wr (40 + (wr (36 * v0)))) + 2)) + (wr (2 * k)))) = (wr ((wr (40 + (wr (36 * v0)))) + 2)) + (wr (2 * k)) := wr_id (show -2147483648 ≤ ((wr ((wr (40 + (wr (36 * v0)))) + 2)) + (wr (2 * k)) : Int) ∧ ((wr ((wr (40 + (wr (36 * v0)))) + 2)) + (wr (2 * k)) : Int) < 2147483648 from by omega)
        refine ⟨_, rfl, (by decide), (show (0 : Int) ≤ (wr ((wr ((wr (40 + (wr (36 * v0)))) + 2)) + (wr (2 * k)))) from by first | with_reducible assumption | omega | (simp only [wr, wl] at *; omega)), (show (wr ((wr ((wr (40 + (wr (36 * v0)))) + 2)) + (wr (2 * k)))) < (1340 : Int) from by first | with_reducible assumption | omega | (simp only [wr, wl] at *; omega)), ?_⟩
        have u22 : (J 236 (Int.toNat (wr ((wr ((wr (40 + (wr (36 * v0)))) + 2)) + (wr (2 * k)))))) = (I 236 (Int.toNat (wr ((wr ((wr (40 + (wr (36 * v0)))) + 2)) + (wr (2 * k)))))) := hV _ _ (by first | decide | omega)
        have a23 : -2147483648 ≤ (J 236 (Int.toNat (wr ((wr ((wr (40 + (wr (36 * v0)))) + 2)) + (wr (2 * k)))))) ∧ (J 236 (Int.toNat (wr ((wr ((wr (40 + (wr (36 * v0)))) + 2)) + (wr (2 * k)))))) < 2147483648 := hA.1 _ _
        refine ⟨_, rfl, (by decide), ?_⟩
        refine fun w0 hw0 => ?_; obtain rfl : w0 = some 236 := hw0.symm.trans (FS.g hF rfl)
        have n24 : (wr ((wr ((wr ((wr (40 + (wr (36 * v0)))) + 2)) + (wr (2 * k)))) + 1)) = (wr ((wr ((wr (40 + (wr (36 * v0)))) + 2)) + (wr (2 * k)))) + 1 := wr_id (show -2147483648 ≤ ((wr ((wr ((wr (40 + (wr (36 * v0)))) + 2)) + (wr (2 * k)))) + 1 : Int) ∧ ((wr ((wr ((wr (40 + (wr (36 * v0)))) + 2)) + (wr (2 * k)))) + 1 : Int) < 2147483648 from by omega)
        refine ⟨_, rfl, (by decide), (show (0 : Int) ≤ (wr ((wr ((wr ((wr (40 + (wr (36 * v0)))) + 2)) + (wr (2 * k)))) + 1)) from by first | with_reducible assumption | omega | (simp only [wr, wl] at *; omega)), (show (wr ((wr ((wr ((wr (40 + (wr (36 * v0)))) + 2)) + (wr (2 * k)))) + 1)) < (1340 : Int) from by first | with_reducible assumption | omega | (simp only [wr, wl] at *; omega)), ?_⟩
        have r25 : (I 236 (Int.toNat (wr ((wr ((wr ((wr (40 + (wr (36 * v0)))) + 2)) + (wr (2 * k)))) + 1)))) ≤ 300000 := Pn_ga2 (p := Int.toNat ((wr ((wr ((wr ((wr (40 + (wr (36 * v0)))) + 2)) + (wr (2 * k)))) + 1)) - 40)) (by omega) (by omega) (hR.n (Int.toNat (wr ((wr ((wr ((wr (40 + (wr (36 * v0)))) + 2)) + (wr (2 * k)))) + 1))) (by omega))
        have u26 : (J 236 (Int.toNat (wr ((wr ((wr ((wr (40 + (wr (36 * v0)))) + 2)) + (wr (2 * k)))) + 1)))) = (I 236 (Int.toNat (wr ((wr ((wr ((wr (40 + (wr (36 * v0)))) + 2)) + (wr (2 * k)))) + 1)))) := hV _ _ (by first | decide | omega)
        have a27 : -2147483648 ≤ (J 236 (Int.toNat (wr ((wr ((wr ((wr (40 + (wr (36 * v0)))) + 2)) + (wr (2 * k)))) + 1)))) ∧ (J 236 (Int.toNat (wr ((wr ((wr ((wr (40 + (wr (36 * v0)))) + 2)) + (wr (2 * k)))) + 1)))) < 2147483648 := hA.1 _ _
        have r28 : (J 236 (Int.toNat (wr ((wr ((wr ((wr (40 + (wr (36 * v0)))) + 2)) + (wr (2 * k)))) + 1)))) ≤ 300000 := Pn_ga2 (p := Int.toNat ((wr ((wr ((wr ((wr (40 + (wr (36 * v0)))) + 2)) + (wr (2 * k)))) + 1)) - 40)) (by omega) (by omega) (hJ.n (Int.toNat (wr ((wr ((wr ((wr (40 + (wr (36 * v0)))) + 2)) + (wr (2 * k)))) + 1))) (by omega))
        refine ⟨⟨_, rfl, (by decide)⟩, ?_⟩
        refine r_does (v0 := (J 236 (Int.toNat (wr ((wr ((wr (40 + (wr (36 * v0)))) + 2)) + (wr (2 * k))))))) (v1 := (J 236 (Int.toNat (wr ((wr ((wr ((wr (40 + (wr (36 * v0)))) + 2)) + (wr (2 * k)))) + 1))))) hF hJ (300000 * k) (by omega) (by omega) (show (J 235 16) ≤ (300000 * k) from by first | with_reducible assumption | omega | (simp only [wr, wl] at *; omega)) (show (J 235 12) ≤ (300000 * k) from by first | with_reducible assumption | omega | (simp only [wr, wl] at *; omega)) (fun I29 hR30 hA31 hW32 q33 q34 => ?_)
        have q33 : (I29 235 16) ≤ ((300000 * k) : Int) + 300000 := q33
        have q34 : (I29 235 12) ≤ ((300000 * k) : Int) + 300000 := q34
        have n35 : (wr (k + 1)) = k + 1 := wr_id (show -2147483648 ≤ (k + 1 : Int) ∧ (k + 1 : Int) < 2147483648 from by omega)
        have r36 : 0 ≤ (I29 235 16) ∧ (I29 235 16) ≤ 20000000 := Rg.f16 hR30
        have r38 : 0 ≤ (I29 235 12) ∧ (I29 235 12) ≤ 20000000 := Rg.f12 hR30
        exact ih (wr (k + 1)) I29 hR30 (fun ka ja hk => ((hW32 ka ja (by omega))).trans ((hV ka ja (by omega)))) (show (0 : Int) ≤ (wr (k + 1)) from by first | with_reducible assumption | omega | (simp only [wr, wl] at *; omega)) (show ((wr (k + 1)) : Int) ≤ 17 from by first | with_reducible assumption | omega | (simp only [wr, wl] at *; omega)) (show (I29 235 16) ≤ 300000 * (wr (k + 1)) from by first | with_reducible assumption | omega | (simp only [wr, wl] at *; omega)) (show (I29 235 12) ≤ 300000 * (wr (k + 1)) from by first | with_reducible assumption | omega | (simp only [wr, wl] at *; omega)) (show (17 - (wr (k + 1))).toNat < mz from by omega)
theorem r_go (hF : FS F) (hR : Rg I) {v0 v1 : Int} (hg : 0 ≤ v0 ∧ v0 ≤ 3) (hp : 0 ≤ v1 ∧ v1 ≤ 13) (hQ : ∀ (r : Int) (I' : pI), Rg I' → AR I' → iR r → (∀ k j, ¬ ((k = 235 ∧ 11 ≤ j ∧ j ≤ 18) ∨ (242 ≤ k ∧ k ≤ 244)) → I' k j = I k j) → Q (some (vi r)) F I') : CallN G (d + 6) kX12_goThrough [vr 235, vi v0, vi v1] NP F I Q := by
  refine CallN_in (fun hok hA => CallN_out ?_)
  have iv0 : -2147483648 ≤ v0 ∧ v0 < 2147483648 := hok (vi v0) (by simp)
  have iv1 : -2147483648 ≤ v1 ∧ v1 < 2147483648 := hok (vi v1) (by simp)
  refine Call_wp (lv := [some (vr 235), some (vi v0), some (vi v1), none, none, none]) (by decide) ckX12_goThrough [51] rfl rfl ?_
  refine ⟨_, rfl, (by decide), ?_⟩
  have p1 : (0 : Int) ≤ v1 ∧ (v1 : Int) ≤ 13 := by first | omega | (simp only [wr, wl] at *; omega)
  refine ⟨_, rfl, (by decide), ?_⟩
  have p2 : (0 : Int) ≤ 0 ∧ (0 : Int) ≤ 20000000 := by decide
  refine ⟨_, rfl, (by decide), (by decide), ?_⟩
  refine ⟨_, rfl, (by decide), (by decide), ?_⟩
  refine ⟨_, rfl, (by decide), ?_⟩
  refine ⟨_, rfl, (by decide), ?_⟩
  have p3 : (0 : Int) ≤ 0 ∧ (0 : Int) ≤ 20000000 := by decide
  refine ⟨_, rfl, (by decide), ?_⟩
  refine ⟨_, rfl, (by decide), ?_⟩
  have p4 : (0 : Int) ≤ 0 ∧ (0 : Int) ≤ 24 := by decide
  refine r_go_l1 hF hR (by omega) (fun r I' g1 g2 hv hA' => hQ _ _ g1 hA' (hv _ rfl) g2) _ 0 (uI (uI (uI (uI (uI (uI (uI (uI I 235 11 v1) 235 12 0) 235 13 0) 235 14 0) 235 15 0) 235 16 0) 235 17 0) 235 18 0) (Rg.u (Rg.u (Rg.u (Rg.u (Rg.u (Rg.u (Rg.u (Rg.u hR (Pr_x11 p1)) (Pr_x12 p2)) (Pr_f rfl)) (Pr_f rfl)) (Pr_f rfl)) (Pr_x16 p3)) (Pr_f rfl)) (Pr_x18 p4)) (fun ka ja hk => ((uI_o (show ¬ (ka = 235 ∧ ja = 18) from by first | (intro e; obtain ⟨rfl, rfl⟩ := e; exact hk (by decide)) | omega))).trans (((uI_o (show ¬ (ka = 235 ∧ ja = 17) from by first | (intro e; obtain ⟨rfl, rfl⟩ := e; exact hk (by decide)) | omega))).trans (((uI_o (show ¬ (ka = 235 ∧ ja = 16) from by first | (intro e; obtain ⟨rfl, rfl⟩ := e; exact hk (by decide)) | omega))).trans (((uI_o (show ¬ (ka = 235 ∧ ja = 15) from by first | (intro e; obtain ⟨rfl, rfl⟩ := e; exact hk (by decide)) | omega))).trans (((uI_o (show ¬ (ka = 235 ∧ ja = 14) from by first | (intro e; obtain ⟨rfl, rfl⟩ := e; exact hk (by decide)) | omega))).trans (((uI_o (show ¬ (ka = 235 ∧ ja = 13) from by first | (intro e; obtain ⟨rfl, rfl⟩ := e; exact hk (by decide)) | omega))).trans (((uI_o (show ¬ (ka = 235 ∧ ja = 12) from by first | (intro e; obtain ⟨rfl, rfl⟩ := e; exact hk (by decide)) | omega))).trans ((uI_o (show ¬ (ka = 235 ∧ ja = 11) from by first | (intro e; obtain ⟨rfl, rfl⟩ := e; exact hk (by decide)) | omega)))))))))) (show (0 : Int) ≤ (0 : Int) from Int.le_refl _) (show ((0 : Int) : Int) ≤ 17 from by first | with_reducible assumption | omega | (simp only [wr, wl] at *; omega)) (show (0 : Int) ≤ 300000 * (0 : Int) from by first | with_reducible assumption | omega | (simp only [wr, wl] at *; omega)) (show (0 : Int) ≤ 300000 * (0 : Int) from by first | with_reducible assumption | omega | (simp only [wr, wl] at *; omega)) (Nat.lt_succ_self _)
theorem r_check_l (hF : FS F) (hR : Rg I) {v0 v1 : Int}  (hQ : ∀ (r : Int) (I' : pI), Rg I' → (∀ k j, ¬ (k = 238 ∨ (k = 235 ∧ 11 ≤ j ∧ j ≤ 18) ∨ (242 ≤ k ∧ k ≤ 244) ∨ (k = 236 ∧ j = 3)) → I' k j = I k j) → Q (some (vi r)) F I') : ∀ (mz : Nat) (m e k : Int) (J : pI), Rg J → (∀ k j, ¬ (k = 238 ∨ (k = 235 ∧ 11 ≤ j ∧ j ≤ 18) ∨ (242 ≤ k ∧ k ≤ 244) ∨ (k = 236 ∧ j = 3)) → J k j = I k j) → ((0 : Int) ≤ m) → ((m : Int) ≤ 48) → ((0 : Int) ≤ k) → ((k : Int) ≤ 48) → (48 - k).toNat < mz → GoN G d kX12_check NP NP 64 [some (vr 235), some (vi v0), some (vi v1), some (vi m), some (vi e), some (vi k)] [] F J Q := by
  intro mz
  induction mz with
  | zero => intro m e k J hJ hV _ _ _ _ h; exact absurd h (Nat.not_lt_zero _)
  | succ mz ih =>
    intro m e k J hJ hV c100 c101 c102 c103 hm
    refine GoN_in (fun hok hA => ?_)
    have iiv0 : -2147483648 ≤ v0 ∧ v0 < 2147483648 := hok 1 _ rfl
    have iiv1 : -2147483648 ≤ v1 ∧ v1 < 2147483648 := hok 2 _ rfl
    have iim : -2147483648 ≤ m ∧ m < 2147483648 := hok 3 _ rfl
    have iie : -2147483648 ≤ e ∧ e < 2147483648 := hok 4 _ rfl
    have iik : -2147483648 ≤ k ∧ k < 2147483648 := hok 5 _ rfl
    refine Go_wp (by decide) ckX12_check [64] ?_
    refine ⟨fun (c1 : ((m : Int) ≤ k)) => ?_, fun (c1 : (¬ ((m : Int) ≤ k))) => ?_⟩
    ·
      refine ⟨fun (c2 : (¬ (k : Int) = m)) => ?_, fun (c2 : ((k : Int) = m)) => ?_⟩
      ·
        exact ⟨rfl, hQ _ _ hJ (fun ka ja hk => (hV ka ja (by omega)))⟩
      ·
        refine ⟨_, rfl, (by decide), ?_⟩
        have r3 : 0 ≤ (J 235 18) ∧ (J 235 18) ≤ 24 := Rg.f18 hJ
        have n5 : (wr (2 * (J 235 18))) = 2 * (J 235 18) := wr_id (show -2147483648 ≤ (2 * (J 235 18) : Int) ∧ (2 * (J 235 18) : Int) < 2147483648 from by omega)
        refine ⟨fun (c6 : (¬ (k : Int) = (wr (2 * (J 235 18))))) => ?_, fun (c6 : ((k : Int) = (wr (2 * (J 235 18))))) => ?_⟩
        ·
          exact ⟨rfl, hQ _ _ hJ (fun ka ja hk => (hV ka ja (by omega)))⟩
        ·
          exact ⟨rfl, hQ _ _ hJ (fun ka ja hk => (hV ka ja (by omega)))⟩
    ·
      refine ⟨_, rfl, (by decide), ?_⟩
      have r7 : 0 ≤ (J 235 18) ∧ (J 235 18) ≤ 24 := Rg.f18 hJ
      have n9 : (wr (2 * (J 235 18))) = 2 * (J 235 18) := wr_id (show -2147483648 ≤ (2 * (J 235 18) : Int) ∧ (2 * (J 235 18) : Int) < 2147483648 from by omega)
      refine ⟨fun (c10 : (((wr (2 * (J 235 18))) : Int) ≤ k)) => ?_, fun (c10 : (¬ (((wr (2 * (J 235 18))) : Int) ≤ k))) => ?_⟩
      ·
        refine ⟨fun (c11 : (¬ (k : Int) = m)) => ?_, fun (c11 : ((k : Int) = m)) => ?_⟩
        ·
          exact ⟨rfl, hQ _ _ hJ (fun ka ja hk => (hV ka ja (by omega)))⟩
        ·
          refine ⟨_, rfl, (by decide), ?_⟩
          refine ⟨fun (c12 : (¬ (k : Int) = (wr (2 * (J 235 18))))) => ?_, fun (c12 : ((k : Int) = (wr (2 * (J 235 18))))) => ?_⟩
          ·
            exact ⟨rfl, hQ _ _ hJ (fun ka ja hk => (hV ka ja (by omega)))⟩
          ·
            exact ⟨rfl, hQ _ _ hJ (fun ka ja hk => (hV ka ja (by omega)))⟩
      ·
        refine ⟨_, rfl, (by decide), ?_⟩
        refine fun w0 hw0 => ?_; obtain rfl : w0 = some 236 := hw0.symm.trans (FS.g hF rfl)
        have n13 : (wr (1292 + k)) = 1292 + k := wr_id (show -2147483648 ≤ (1292 + k : Int) ∧ (1292 + k : Int) < 2147483648 from by omega)
        refine ⟨_, rfl, (by decide), (show (0 : Int) ≤ (wr (1292 + k)) from by first | with_reducible assumption | omega | (simp only [wr, wl] at *; omega)), (show (wr (1292 + k)) < (1340 : Int) from by first | with_reducible assumption | omega | (simp only [wr, wl] at *; omega)), ?_⟩
        refine ⟨(by decide), ?_⟩
        have n14 : (Int.tmod k 2) = (k : Int) % 2 := Int.tmod_eq_emod_of_nonneg (by omega)
        refine ⟨fun (c15 : (¬ ((Int.tmod k 2) : Int) = 0)) => ?_, fun (c15 : (((Int.tmod k 2) : Int) = 0)) => ?_⟩
        ·
          refine ⟨_, rfl, (by decide), ?_⟩
          refine fun w0 hw0 => ?_; obtain rfl : w0 = some 244 := hw0.symm.trans (FS.g hF rfl)
          refine ⟨(by decide), ?_⟩
          have n16 : (Int.tdiv k 2) = (k : Int) / 2 := Int.tdiv_eq_ediv_of_nonneg (by omega)
          have n17 : (wr (Int.tdiv k 2)) = (Int.tdiv k 2) := wr_id (show -2147483648 ≤ ((Int.tdiv k 2) : Int) ∧ ((Int.tdiv k 2) : Int) < 2147483648 from by omega)
          refine ⟨_, rfl, (by decide), (show (0 : Int) ≤ (wr (Int.tdiv k 2)) from by first | with_reducible assumption | omega | (simp only [wr, wl] at *; omega)), (show (wr (Int.tdiv k 2)) < (24 : Int) from by first | with_reducible assumption | omega | (simp only [wr, wl] at *; omega)), ?_⟩
          have a18 : -2147483648 ≤ (J 236 (Int.toNat (wr (1292 + k)))) ∧ (J 236 (Int.toNat (wr (1292 + k)))) < 2147483648 := hA.1 _ _
          have a19 : -2147483648 ≤ (J 244 (Int.toNat (wr (Int.tdiv k 2)))) ∧ (J 244 (Int.toNat (wr (Int.tdiv k 2)))) < 2147483648 := hA.1 _ _
          refine ⟨fun (c20 : (¬ ((J 236 (Int.toNat (wr (1292 + k)))) : Int) = (J 244 (Int.toNat (wr (Int.tdiv k 2)))))) => ?_, fun (c20 : (((J 236 (Int.toNat (wr (1292 + k)))) : Int) = (J 244 (Int.toNat (wr (Int.tdiv k 2)))))) => ?_⟩
          ·
            refine ⟨fun (c21 : (¬ (k : Int) = m)) => ?_, fun (c21 : ((k : Int) = m)) => ?_⟩
            ·
              exact ⟨rfl, hQ _ _ hJ (fun ka ja hk => (hV ka ja (by omega)))⟩
            ·
              refine ⟨_, rfl, (by decide), ?_⟩
              refine ⟨fun (c22 : (¬ (k : Int) = (wr (2 * (J 235 18))))) => ?_, fun (c22 : ((k : Int) = (wr (2 * (J 235 18))))) => ?_⟩
              ·
                exact ⟨rfl, hQ _ _ hJ (fun ka ja hk => (hV ka ja (by omega)))⟩
              ·
                exact ⟨rfl, hQ _ _ hJ (fun ka ja hk => (hV ka ja (by omega)))⟩
          ·
            have n23 : (wr (k + 1)) = k + 1 := wr_id (show -2147483648 ≤ (k + 1 : Int) ∧ (k + 1 : Int) < 2147483648 from by omega)
            exact ih m e (wr (k + 1)) J hJ (fun ka ja hk => (hV ka ja (by omega))) (show (0 : Int) ≤ m from by first | with_reducible assumption | omega | (simp only [wr, wl] at *; omega)) (show (m : Int) ≤ 48 from by first | with_reducible assumption | omega | (simp only [wr, wl] at *; omega)) (show (0 : Int) ≤ (wr (k + 1)) from by first | with_reducible assumption | omega | (simp only [wr, wl] at *; omega)) (show ((wr (k + 1)) : Int) ≤ 48 from by first | with_reducible assumption | omega | (simp only [wr, wl] at *; omega)) (show (48 - (wr (k + 1))).toNat < mz from by omega)
        ·
          refine ⟨_, rfl, (by decide), ?_⟩
          refine fun w0 hw0 => ?_; obtain rfl : w0 = some 243 := hw0.symm.trans (FS.g hF rfl)
          refine ⟨(by decide), ?_⟩
          have n24 : (Int.tdiv k 2) = (k : Int) / 2 := Int.tdiv_eq_ediv_of_nonneg (by omega)
          have n25 : (wr (Int.tdiv k 2)) = (Int.tdiv k 2) := wr_id (show -2147483648 ≤ ((Int.tdiv k 2) : Int) ∧ ((Int.tdiv k 2) : Int) < 2147483648 from by omega)
          refine ⟨_, rfl, (by decide), (show (0 : Int) ≤ (wr (Int.tdiv k 2)) from by first | with_reducible assumption | omega | (simp only [wr, wl] at *; omega)), (show (wr (Int.tdiv k 2)) < (24 : Int) from by first | with_reducible assumption | omega | (simp only [wr, wl] at *; omega)), ?_⟩
          have a26 : -2147483648 ≤ (J 236 (Int.toNat (wr (1292 + k)))) ∧ (J 236 (Int.toNat (wr (1292 + k)))) < 2147483648 := hA.1 _ _
          have a27 : -2147483648 ≤ (J 243 (Int.toNat (wr (Int.tdiv k 2)))) ∧ (J 243 (Int.toNat (wr (Int.tdiv k 2)))) < 2147483648 := hA.1 _ _
          refine ⟨fun (c28 : (¬ ((J 236 (Int.toNat (wr (1292 + k)))) : Int) = (J 243 (Int.toNat (wr (Int.tdiv k 2)))))) => ?_, fun (c28 : (((J 236 (Int.toNat (wr (1292 + k)))) : Int) = (J 243 (Int.toNat (wr (Int.tdiv k 2)))))) => ?_⟩
          ·
            refine ⟨fun (c29 : (¬ (k : Int) = m)) => ?_, fun (c29 : ((k : Int) = m)) => ?_⟩
            ·
              exact ⟨rfl, hQ _ _ hJ (fun ka ja hk => (hV ka ja (by omega)))⟩
            ·
              refine ⟨_, rfl, (by decide), ?_⟩
              refine ⟨fun (c30 : (¬ (k : Int) = (wr (2 * (J 235 18))))) => ?_, fun (c30 : ((k : Int) = (wr (2 * (J 235 18))))) => ?_⟩
              ·
                exact ⟨rfl, hQ _ _ hJ (fun ka ja hk => (hV ka ja (by omega)))⟩
              ·
                exact ⟨rfl, hQ _ _ hJ (fun ka ja hk => (hV ka ja (by omega)))⟩
          ·
            have n31 : (wr (k + 1)) = k + 1 := wr_id (show -2147483648 ≤ (k + 1 : Int) ∧ (k + 1 : Int) < 2147483648 from by omega)
            exact ih m e (wr (k + 1)) J hJ (fun ka ja hk => (hV ka ja (by omega))) (show (0 : Int) ≤ m from by first | with_reducible assumption | omega | (simp only [wr, wl] at *; omega)) (show (m : Int) ≤ 48 from by first | with_reducible assumption | omega | (simp only [wr, wl] at *; omega)) (show (0 : Int) ≤ (wr (k + 1)) from by first | with_reducible assumption | omega | (simp only [wr, wl] at *; omega)) (show ((wr (k + 1)) : Int) ≤ 48 from by first | with_reducible assumption | omega | (simp only [wr, wl] at *; omega)) (show (48 - (wr (k + 1))).toNat < mz from by omega)
theorem r_check (hF : FS F) (hR : Rg I) {v0 v1 : Int}  (hQ : ∀ (r : Int) (I' : pI), Rg I' → AR I' → iR r → (∀ k j, ¬ (k = 238 ∨ (k = 235 ∧ 11 ≤ j ∧ j ≤ 18) ∨ (242 ≤ k ∧ k ≤ 244) ∨ (k = 236 ∧ j = 3)) → I' k j = I k j) → Q (some (vi r)) F I') : CallN G (d + 7) kX12_check [vr 235, vi v0, vi v1] NP F I Q := by
  refine CallN_in (fun hok hA => CallN_out ?_)
  have iv0 : -2147483648 ≤ v0 ∧ v0 < 2147483648 := hok (vi v0) (by simp)
  have iv1 : -2147483648 ≤ v1 ∧ v1 < 2147483648 := hok (vi v1) (by simp)
  refine Call_wp (lv := [some (vr 235), some (vi v0), some (vi v1), none, none, none]) (by decide) ckX12_check [64] rfl rfl ?_
  refine ⟨_, rfl, (by decide), ?_⟩
  refine fun w0 hw0 => ?_; obtain rfl : w0 = some 236 := hw0.symm.trans (FS.g hF rfl)
  refine ⟨_, rfl, (by decide), (by decide), (by decide), ?_⟩
  have r1 : 0 ≤ (I 236 3) ∧ (I 236 3) ≤ 48 := Rg.n3 hR
  refine ⟨_, rfl, (by decide), ?_⟩
  refine fun w0 hw0 => ?_; obtain rfl : w0 = some 236 := hw0.symm.trans (FS.g hF rfl)
  refine ⟨_, rfl, (by decide), (by decide), (by decide), ?_⟩
  have p2 : Pn 3 0 := by apply Pn_w <;> omega
  refine ⟨⟨_, rfl, (by decide)⟩, ?_⟩
  refine s_X12_isProgram (fun (w3 : ((0 : Int) ≤ v0 ∧ (v0 : Int) ≤ 3)) => ?_) (fun (w3 : ¬ ((0 : Int) ≤ v0 ∧ (v0 : Int) ≤ 3)) => ?_)
  ·
    refine ⟨fun c => absurd c (show (¬ ((1 : Int) = 0)) from by decide), fun _ => ?_⟩
    refine ⟨⟨_, rfl, (by decide)⟩, ?_⟩
    have r4 : 0 ≤ (I 236 0) ∧ (I 236 0) ≤ 14 := Rg.n0 hR
    refine s_X12_is hF (w := 0) (by decide) (show 0 ≤ (I 236 0) ∧ (I 236 0) < 1000000 from by omega) (fun (w5 : (0 ≤ v1 ∧ v1 < (I 236 0))) => ?_) (fun (w5 : ¬ (0 ≤ v1 ∧ v1 < (I 236 0))) => ?_)
    ·
      refine ⟨fun _ => ?_, fun c => absurd c (show (¬ (1 : Int) = 0) from by decide)⟩
      refine ⟨⟨_, rfl, (by decide)⟩, ?_⟩
      refine Call_wp (lv := [some (vr 235), some (vi v0)]) (by decide) ckX12_hasProgram [] rfl rfl ?_
      refine ⟨_, rfl, (by decide), ?_⟩
      refine fun w0 hw0 => ?_; obtain rfl : w0 = some 236 := hw0.symm.trans (FS.g hF rfl)
      have n6 : (wr (36 * v0)) = 36 * v0 := wr_id (show -2147483648 ≤ (36 * v0 : Int) ∧ (36 * v0 : Int) < 2147483648 from by omega)
      have n7 : (wr (40 + (wr (36 * v0)))) = 40 + (wr (36 * v0)) := wr_id (show -2147483648 ≤ (40 + (wr (36 * v0)) : Int) ∧ (40 + (wr (36 * v0)) : Int) < 2147483648 from by omega)
      have n8 : (wr ((wr (40 + (wr (36 * v0)))) + 0)) = (wr (40 + (wr (36 * v0)))) + 0 := wr_id (show -2147483648 ≤ ((wr (40 + (wr (36 * v0)))) + 0 : Int) ∧ ((wr (40 + (wr (36 * v0)))) + 0 : Int) < 2147483648 from by omega)
      refine ⟨_, rfl, (by decide), (show (0 : Int) ≤ (wr ((wr (40 + (wr (36 * v0)))) + 0)) from by first | with_reducible assumption | omega | (simp only [wr, wl] at *; omega)), (show (wr ((wr (40 + (wr (36 * v0)))) + 0)) < (1340 : Int) from by first | with_reducible assumption | omega | (simp only [wr, wl] at *; omega)), ?_⟩
      have r9 : 0 ≤ (I 236 (Int.toNat (wr ((wr (40 + (wr (36 * v0)))) + 0)))) ∧ (I 236 (Int.toNat (wr ((wr (40 + (wr (36 * v0)))) + 0)))) ≤ 17 := Pn_g0 (p := (Int.toNat v0)) (by omega) (by omega) (hR.n (Int.toNat (wr ((wr (40 + (wr (36 * v0)))) + 0))) (by omega))
      have u10 : ((uI I 236 3 0) 236 (Int.toNat (wr ((wr (40 + (wr (36 * v0)))) + 0)))) = (I 236 (Int.toNat (wr ((wr (40 + (wr (36 * v0)))) + 0)))) := uJ_ne (by omega)
      refine ⟨fun (c12 : ((((uI I 236 3 0) 236 (Int.toNat (wr ((wr (40 + (wr (36 * v0)))) + 0)))) : Int) ≤ 0)) => ?_, fun (c12 : (¬ ((((uI I 236 3 0) 236 (Int.toNat (wr ((wr (40 + (wr (36 * v0)))) + 0)))) : Int) ≤ 0))) => ?_⟩
      ·
        refine ⟨rfl, (by decide), ?_⟩
        refine ⟨fun c => absurd (show ((0 : Int) = 0) from by decide) c, fun _ => ?_⟩
        refine ⟨⟨_, rfl, (by decide)⟩, ?_⟩
        refine s_X12_finding hF (v := (-1000002)) (by decide) ?_
        exact ⟨rfl, fun hv hA' => hQ _ _ (Rg.u (Rg.u hR (Pr_n p2)) (Pr_f rfl)) hA' (hv _ rfl) (fun ka ja hk => ((uI_o (show ¬ (ka = 238 ∧ ja = 2) from by first | (intro e; obtain ⟨rfl, rfl⟩ := e; exact hk (by decide)) | omega))).trans ((uI_o (show ¬ (ka = 236 ∧ ja = 3) from by first | (intro e; obtain ⟨rfl, rfl⟩ := e; exact hk (by decide)) | omega))))⟩
      ·
        refine ⟨rfl, (by decide), ?_⟩
        refine ⟨fun _ => ?_, fun c => absurd c (show (¬ (1 : Int) = 0) from by decide)⟩
        refine ⟨⟨_, rfl, (by decide)⟩, ?_⟩
        refine r_go (v0 := v0) (v1 := v1) hF (Rg.u hR (Pr_n p2)) (by omega) (by omega) (fun vr13 I14 hR15 hA16 hr18 hW17 => ?_)
        have hr18 : -2147483648 ≤ vr13 ∧ vr13 < 2147483648 := hr18
        refine r_check_l hF hR  (fun r I' g1 g2 hv hA' => hQ _ _ g1 hA' (hv _ rfl) g2) _ (I 236 3) vr13 0 I14 hR15 (fun ka ja hk => ((hW17 ka ja (by omega))).trans ((uI_o (show ¬ (ka = 236 ∧ ja = 3) from by first | (intro e; obtain ⟨rfl, rfl⟩ := e; exact hk (by decide)) | omega)))) (show (0 : Int) ≤ (I 236 3) from by first | with_reducible assumption | omega | (simp only [wr, wl] at *; omega)) (show ((I 236 3) : Int) ≤ 48 from by first | with_reducible assumption | omega | (simp only [wr, wl] at *; omega)) (show (0 : Int) ≤ (0 : Int) from Int.le_refl _) (show ((0 : Int) : Int) ≤ 48 from by first | with_reducible assumption | omega | (simp only [wr, wl] at *; omega)) (Nat.lt_succ_self _)
    ·
      refine ⟨fun c => absurd (show ((0 : Int) = 0) from by decide) c, fun _ => ?_⟩
      refine ⟨⟨_, rfl, (by decide)⟩, ?_⟩
      refine s_X12_finding hF (v := (-1000001)) (by decide) ?_
      exact ⟨rfl, fun hv hA' => hQ _ _ (Rg.u (Rg.u hR (Pr_n p2)) (Pr_f rfl)) hA' (hv _ rfl) (fun ka ja hk => ((uI_o (show ¬ (ka = 238 ∧ ja = 1) from by first | (intro e; obtain ⟨rfl, rfl⟩ := e; exact hk (by decide)) | omega))).trans ((uI_o (show ¬ (ka = 236 ∧ ja = 3) from by first | (intro e; obtain ⟨rfl, rfl⟩ := e; exact hk (by decide)) | omega))))⟩
  ·
    refine ⟨fun _ => ?_, fun c => absurd (show ((0 : Int) = 0) from by decide) c⟩
    refine ⟨⟨_, rfl, (by decide)⟩, ?_⟩
    refine s_X12_finding hF (v := (-1000001)) (by decide) ?_
    exact ⟨rfl, fun hv hA' => hQ _ _ (Rg.u (Rg.u hR (Pr_n p2)) (Pr_f rfl)) hA' (hv _ rfl) (fun ka ja hk => ((uI_o (show ¬ (ka = 238 ∧ ja = 1) from by first | (intro e; obtain ⟨rfl, rfl⟩ := e; exact hk (by decide)) | omega))).trans ((uI_o (show ¬ (ka = 236 ∧ ja = 3) from by first | (intro e; obtain ⟨rfl, rfl⟩ := e; exact hk (by decide)) | omega))))⟩
theorem r_ran (hF : FS F) (hR : Rg I) {v0 : Int}  (hQ : ∀ (r : Int) (I' : pI), Rg I' → AR I' → iR r → (∀ k j, ¬ (k = 238) → I' k j = I k j) → Q (some (vi r)) F I') : CallN G (d + 1) kX12_ran [vr 235, vi v0] NP F I Q := by
  refine CallN_in (fun hok hA => CallN_out ?_)
  have iv0 : -2147483648 ≤ v0 ∧ v0 < 2147483648 := hok (vi v0) (by simp)
  refine Call_wp (lv := [some (vr 235), some (vi v0)]) (by decide) ckX12_ran [] rfl rfl ?_
  refine s_X12_within (fun (w1 : ((0 : Int) ≤ v0 ∧ (v0 : Int) ≤ 3)) => ?_) (fun (w1 : ¬ ((0 : Int) ≤ v0 ∧ (v0 : Int) ≤ 3)) => ?_)
  ·
    refine ⟨fun _ => ?_, fun c => absurd c (show (¬ (1 : Int) = 0) from by decide)⟩
    refine ⟨_, rfl, (by decide), ?_⟩
    refine fun w0 hw0 => ?_; obtain rfl : w0 = some 236 := hw0.symm.trans (FS.g hF rfl)
    refine ⟨_, rfl, (by decide), (by decide), (by decide), ?_⟩
    have a2 : -2147483648 ≤ (I 236 9) ∧ (I 236 9) < 2147483648 := hA.1 _ _
    refine ⟨fun (c3 : (¬ ((I 236 9) : Int) = 0)) => ?_, fun (c3 : (((I 236 9) : Int) = 0)) => ?_⟩
    ·
      refine ⟨_, rfl, (by decide), ?_⟩
      refine fun w0 hw0 => ?_; obtain rfl : w0 = some 236 := hw0.symm.trans (FS.g hF rfl)
      have n4 : (wr (10 + v0)) = 10 + v0 := wr_id (show -2147483648 ≤ (10 + v0 : Int) ∧ (10 + v0 : Int) < 2147483648 from by omega)
      refine ⟨_, rfl, (by decide), (show (0 : Int) ≤ (wr (10 + v0)) from by first | with_reducible assumption | omega | (simp only [wr, wl] at *; omega)), (show (wr (10 + v0)) < (1340 : Int) from by first | with_reducible assumption | omega | (simp only [wr, wl] at *; omega)), ?_⟩
      exact ⟨rfl, fun hv hA' => hQ _ _ hR hA' (hv _ rfl) (fun _ _ _ => rfl)⟩
    ·
      refine ⟨⟨_, rfl, (by decide)⟩, ?_⟩
      refine s_X12_finding hF (v := (-1000002)) (by decide) ?_
      exact ⟨rfl, fun hv hA' => hQ _ _ (Rg.u hR (Pr_f rfl)) hA' (hv _ rfl) (fun ka ja hk => (uI_o (show ¬ (ka = 238 ∧ ja = 2) from by first | (intro e; obtain ⟨rfl, rfl⟩ := e; exact hk (by decide)) | omega)))⟩
  ·
    refine ⟨fun c => absurd (show ((0 : Int) = 0) from by decide) c, fun _ => ?_⟩
    refine ⟨⟨_, rfl, (by decide)⟩, ?_⟩
    refine s_X12_finding hF (v := (-1000001)) (by decide) ?_
    exact ⟨rfl, fun hv hA' => hQ _ _ (Rg.u hR (Pr_f rfl)) hA' (hv _ rfl) (fun ka ja hk => (uI_o (show ¬ (ka = 238 ∧ ja = 1) from by first | (intro e; obtain ⟨rfl, rfl⟩ := e; exact hk (by decide)) | omega)))⟩
end RN
