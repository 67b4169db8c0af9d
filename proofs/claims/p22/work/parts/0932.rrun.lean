/-! runs of the reference, from any state. Own work (scripts laid by wip/pm/gen30.py). -/
section RN
variable {G : pG} {d : Nat} {F : pF} {I : pI} {Q : Option pV → pF → pI → Prop}
theorem r_tick (hF : FS F) (hR : Rg I) (ht : I 235 16 ≤ 19999999) (hQ : ∀ (I' : pI), Rg I' → AR I' → (∀ k j, ¬ ((k = 235 ∧ (j = 13 ∨ j = 15 ∨ j = 16)) ∨ k = 242) → I' k j = I k j) → ((I' 235 16) = (I 235 16) + 1) → Q none F I') : CallN G (d + 4) kX12_tick [vr 235] NP F I Q := by
  refine CallN_in (fun hok hA => CallN_out ?_)
  refine Call_wp (lv := [some (vr 235)]) (by decide) ckX12_tick [] rfl rfl ?_
  refine ⟨_, rfl, (by decide), ?_⟩
  have r1 : 0 ≤ (I 235 16) ∧ (I 235 16) ≤ 20000000 := Rg.f16 hR
  refine ⟨_, rfl, (by decide), ?_⟩
  have a2 : -2147483648 ≤ (I 235 16) ∧ (I 235 16) < 2147483648 := hA.1 _ _
  have n3 : (wr ((I 235 16) + 1)) = (I 235 16) + 1 := wr_id (show -2147483648 ≤ ((I 235 16) + 1 : Int) ∧ ((I 235 16) + 1 : Int) < 2147483648 from by omega)
  have p4 : (0 : Int) ≤ (wr ((I 235 16) + 1)) ∧ ((wr ((I 235 16) + 1)) : Int) ≤ 20000000 := by first | omega | (simp only [wr, wl] at *; omega)
  refine ⟨_, rfl, (by decide), ?_⟩
  have a5 : -2147483648 ≤ (I 235 13) ∧ (I 235 13) < 2147483648 := hA.1 _ _
  refine ⟨fun (c6 : (¬ ((I 235 13) : Int) = 0)) => ?_, fun (c6 : (((I 235 13) : Int) = 0)) => ?_⟩
  ·
    refine ⟨_, rfl, (by decide), (by decide), ?_⟩
    refine ⟨_, rfl, (by decide), ?_⟩
    refine fun w0 hw0 => ?_; obtain rfl : w0 = some 242 := hw0.symm.trans (FS.g hF rfl)
    refine ⟨_, rfl, (by decide), ?_⟩
    refine ⟨(by decide), ?_⟩
    refine ⟨⟨_, rfl, (by decide)⟩, ?_⟩
    refine Call_wp (lv := [some (vr 235)]) (by decide) ckX12_loadNow [] rfl rfl ?_
    refine ⟨_, rfl, (by decide), ?_⟩
    refine ⟨fun c => absurd c (show (¬ ((1 : Int) = 0)) from by decide), fun _ => ?_⟩
    refine ⟨rfl, ?_⟩
    have n7 : (Int.tmod (wr ((I 235 16) + 1)) 8) = ((wr ((I 235 16) + 1)) : Int) % 8 := Int.tmod_eq_emod_of_nonneg (by omega)
    refine ⟨_, rfl, (by decide), (show (0 : Int) ≤ (Int.tmod (wr ((I 235 16) + 1)) 8) from by first | omega | (simp only [wr, wl] at *; omega)), (show (Int.tmod (wr ((I 235 16) + 1)) 8) < (8 : Int) from by first | omega | (simp only [wr, wl] at *; omega)), ?_⟩
    refine ⟨_, rfl, (by decide), ?_⟩
    have a8 : -2147483648 ≤ (I 235 14) ∧ (I 235 14) < 2147483648 := hA.1 _ _
    refine ⟨fun (c9 : (¬ ((I 235 14) : Int) = 0)) => ?_, fun (c9 : (((I 235 14) : Int) = 0)) => ?_⟩
    ·
      exact ⟨rfl, fun hv hA' => hQ _ (Rg.u (Rg.u (Rg.u hR (Pr_x16 p4)) (Pr_f rfl)) (Pr_p (k := 242) rfl _ _)) hA' (fun k j hk => ((uI_o (by omega))).trans (((uI_o (by omega))).trans ((uI_o (by omega))))) (show (wr ((I 235 16) + 1)) = (I 235 16) + 1 from by first | omega | (simp only [wr, wl] at *; omega))⟩
    ·
      refine ⟨_, rfl, (by decide), ?_⟩
      refine ⟨fun c => absurd c (show (¬ ((1 : Int) = 0)) from by decide), fun _ => ?_⟩
      refine ⟨_, rfl, (by decide), ?_⟩
      exact ⟨rfl, fun hv hA' => hQ _ (Rg.u (Rg.u (Rg.u (Rg.u hR (Pr_x16 p4)) (Pr_f rfl)) (Pr_p (k := 242) rfl _ _)) (Pr_f rfl)) hA' (fun k j hk => ((uI_o (by omega))).trans (((uI_o (by omega))).trans (((uI_o (by omega))).trans ((uI_o (by omega)))))) (show (wr ((I 235 16) + 1)) = (I 235 16) + 1 from by first | omega | (simp only [wr, wl] at *; omega))⟩
  ·
    refine ⟨_, rfl, (by decide), ?_⟩
    have r10 : 0 ≤ (I 235 12) ∧ (I 235 12) ≤ 20000000 := Rg.f12 hR
    refine ⟨_, rfl, (by decide), ?_⟩
    have r11 : 0 ≤ (I 235 11) ∧ (I 235 11) ≤ 13 := Rg.f11 hR
    refine ⟨⟨_, rfl, (by decide)⟩, ?_⟩
    refine Call_wp (lv := [some (vr 235), some (vi (I 235 11))]) (by decide) ckX12_end [] rfl rfl ?_
    refine ⟨⟨_, rfl, (by decide)⟩, ?_⟩
    have a12 : -2147483648 ≤ (I 235 11) ∧ (I 235 11) < 2147483648 := hA.1 _ _
    refine r_of hF (j := (Int.toNat (307 + 66 * (I 235 11)))) (by omega) (by omega) (by omega) (fun w13 hw14 => ?_)
    have r15 : 0 ≤ (I 236 (Int.toNat (307 + 66 * (I 235 11)))) ∧ (I 236 (Int.toNat (307 + 66 * (I 235 11)))) ≤ 12 := Pn_p3 (p := (Int.toNat (I 235 11))) (by omega) (by omega) (hR.n 236 (Int.toNat (307 + 66 * (I 235 11))) (Or.inl rfl))
    have hw14 : w13 = (I 236 (Int.toNat (307 + 66 * (I 235 11)))) := hw14
    refine ⟨rfl, ?_⟩
    have a16 : -2147483648 ≤ (I 235 12) ∧ (I 235 12) < 2147483648 := hA.1 _ _
    have a17 : -2147483648 ≤ (I 236 (Int.toNat (307 + 66 * (I 235 11)))) ∧ (I 236 (Int.toNat (307 + 66 * (I 235 11)))) < 2147483648 := hA.1 _ _
    have n18 : (wr (w13 - 1)) = w13 - 1 := wr_id (show -2147483648 ≤ (w13 - 1 : Int) ∧ (w13 - 1 : Int) < 2147483648 from by omega)
    have n19 : (wr (10 * (wr (w13 - 1)))) = 10 * (wr (w13 - 1)) := wr_id (show -2147483648 ≤ (10 * (wr (w13 - 1)) : Int) ∧ (10 * (wr (w13 - 1)) : Int) < 2147483648 from by omega)
    refine ⟨fun (c20 : (((I 235 12) : Int) ≤ (wr (10 * (wr (w13 - 1)))))) => ?_, fun (c20 : (¬ (((I 235 12) : Int) ≤ (wr (10 * (wr (w13 - 1))))))) => ?_⟩
    ·
      refine ⟨_, rfl, (by decide), (by decide), ?_⟩
      refine ⟨_, rfl, (by decide), ?_⟩
      refine fun w0 hw0 => ?_; obtain rfl : w0 = some 242 := hw0.symm.trans (FS.g hF rfl)
      refine ⟨_, rfl, (by decide), ?_⟩
      refine ⟨(by decide), ?_⟩
      refine ⟨⟨_, rfl, (by decide)⟩, ?_⟩
      refine Call_wp (lv := [some (vr 235)]) (by decide) ckX12_loadNow [] rfl rfl ?_
      refine ⟨_, rfl, (by decide), ?_⟩
      refine ⟨fun _ => ?_, fun c => absurd (show ((0 : Int) = 0) from by decide) c⟩
      refine ⟨_, rfl, (by decide), ?_⟩
      refine ⟨_, rfl, (by decide), ?_⟩
      refine ⟨⟨_, rfl, (by decide)⟩, ?_⟩
      refine r_answered hF (Rg.u (Rg.u hR (Pr_x16 p4)) (Pr_f rfl)) (by omega) (by omega) (fun v21 hr22 => ?_)
      have hr22 : -2147483648 ≤ v21 ∧ v21 < 2147483648 := hr22
      refine ⟨rfl, ?_⟩
      have n23 : (Int.tmod (wr ((I 235 16) + 1)) 8) = ((wr ((I 235 16) + 1)) : Int) % 8 := Int.tmod_eq_emod_of_nonneg (by omega)
      refine ⟨_, rfl, (by decide), (show (0 : Int) ≤ (Int.tmod (wr ((I 235 16) + 1)) 8) from by first | omega | (simp only [wr, wl] at *; omega)), (show (Int.tmod (wr ((I 235 16) + 1)) 8) < (8 : Int) from by first | omega | (simp only [wr, wl] at *; omega)), ?_⟩
      refine ⟨_, rfl, (by decide), ?_⟩
      have a24 : -2147483648 ≤ (I 235 14) ∧ (I 235 14) < 2147483648 := hA.1 _ _
      refine ⟨fun (c25 : (¬ ((I 235 14) : Int) = 0)) => ?_, fun (c25 : (((I 235 14) : Int) = 0)) => ?_⟩
      ·
        exact ⟨rfl, fun hv hA' => hQ _ (Rg.u (Rg.u (Rg.u hR (Pr_x16 p4)) (Pr_f rfl)) (Pr_p (k := 242) rfl _ _)) hA' (fun k j hk => ((uI_o (by omega))).trans (((uI_o (by omega))).trans ((uI_o (by omega))))) (show (wr ((I 235 16) + 1)) = (I 235 16) + 1 from by first | omega | (simp only [wr, wl] at *; omega))⟩
      ·
        refine ⟨_, rfl, (by decide), ?_⟩
        refine ⟨fun _ => ?_, fun c => absurd (show ((0 : Int) = 0) from by decide) c⟩
        refine ⟨⟨_, rfl, (by decide)⟩, ?_⟩
        refine Call_wp (lv := [some (vr 235)]) (by decide) ckX12_loadNow [] rfl rfl ?_
        refine ⟨_, rfl, (by decide), ?_⟩
        refine ⟨fun _ => ?_, fun c => absurd (show ((0 : Int) = 0) from by decide) c⟩
        refine ⟨_, rfl, (by decide), ?_⟩
        refine ⟨_, rfl, (by decide), ?_⟩
        refine ⟨⟨_, rfl, (by decide)⟩, ?_⟩
        refine r_answered hF (Rg.u (Rg.u (Rg.u hR (Pr_x16 p4)) (Pr_f rfl)) (Pr_p (k := 242) rfl _ _)) (by omega) (by omega) (fun v26 hr27 => ?_)
        have hr27 : -2147483648 ≤ v26 ∧ v26 < 2147483648 := hr27
        refine ⟨rfl, ?_⟩
        refine ⟨_, rfl, (by decide), ?_⟩
        refine fun w0 hw0 => ?_; obtain rfl : w0 = some 236 := hw0.symm.trans (FS.g hF rfl)
        refine ⟨_, rfl, (by decide), (by decide), (by decide), ?_⟩
        have a28 : -2147483648 ≤ (I 236 4) ∧ (I 236 4) < 2147483648 := hA.1 _ _
        refine ⟨fun (c29 : ((v26 : Int) ≤ (I 236 4))) => ?_, fun (c29 : (¬ ((v26 : Int) ≤ (I 236 4)))) => ?_⟩
        ·
          refine ⟨_, rfl, (by decide), ?_⟩
          refine ⟨_, rfl, (by decide), ?_⟩
          refine fun w0 hw0 => ?_; obtain rfl : w0 = some 236 := hw0.symm.trans (FS.g hF rfl)
          refine ⟨_, rfl, (by decide), (by decide), (by decide), ?_⟩
          have a30 : -2147483648 ≤ (I 236 5) ∧ (I 236 5) < 2147483648 := hA.1 _ _
          refine ⟨fun (c31 : (((I 235 12) : Int) ≤ (I 236 5))) => ?_, fun (c31 : (¬ (((I 235 12) : Int) ≤ (I 236 5)))) => ?_⟩
          ·
            refine ⟨_, rfl, (by decide), ?_⟩
            exact ⟨rfl, fun hv hA' => hQ _ (Rg.u (Rg.u (Rg.u (Rg.u hR (Pr_x16 p4)) (Pr_f rfl)) (Pr_p (k := 242) rfl _ _)) (Pr_f rfl)) hA' (fun k j hk => ((uI_o (by omega))).trans (((uI_o (by omega))).trans (((uI_o (by omega))).trans ((uI_o (by omega)))))) (show (wr ((I 235 16) + 1)) = (I 235 16) + 1 from by first | omega | (simp only [wr, wl] at *; omega))⟩
          ·
            refine ⟨_, rfl, (by decide), ?_⟩
            exact ⟨rfl, fun hv hA' => hQ _ (Rg.u (Rg.u (Rg.u (Rg.u hR (Pr_x16 p4)) (Pr_f rfl)) (Pr_p (k := 242) rfl _ _)) (Pr_f rfl)) hA' (fun k j hk => ((uI_o (by omega))).trans (((uI_o (by omega))).trans (((uI_o (by omega))).trans ((uI_o (by omega)))))) (show (wr ((I 235 16) + 1)) = (I 235 16) + 1 from by first | omega | (simp only [wr, wl] at *; omega))⟩
        ·
          refine ⟨_, rfl, (by decide), ?_⟩
          exact ⟨rfl, fun hv hA' => hQ _ (Rg.u (Rg.u (Rg.u (Rg.u hR (Pr_x16 p4)) (Pr_f rfl)) (Pr_p (k := 242) rfl _ _)) (Pr_f rfl)) hA' (fun k j hk => ((uI_o (by omega))).trans (((uI_o (by omega))).trans (((uI_o (by omega))).trans ((uI_o (by omega)))))) (show (wr ((I 235 16) + 1)) = (I 235 16) + 1 from by first | omega | (simp only [wr, wl] at *; omega))⟩
    ·
      refine ⟨_, rfl, (by decide), (by decide), ?_⟩
      refine ⟨_, rfl, (by decide), ?_⟩
      refine fun w0 hw0 => ?_; obtain rfl : w0 = some 242 := hw0.symm.trans (FS.g hF rfl)
      refine ⟨_, rfl, (by decide), ?_⟩
      refine ⟨(by decide), ?_⟩
      refine ⟨⟨_, rfl, (by decide)⟩, ?_⟩
      refine Call_wp (lv := [some (vr 235)]) (by decide) ckX12_loadNow [] rfl rfl ?_
      refine ⟨_, rfl, (by decide), ?_⟩
      refine ⟨fun c => absurd c (show (¬ ((1 : Int) = 0)) from by decide), fun _ => ?_⟩
      refine ⟨rfl, ?_⟩
      have n32 : (Int.tmod (wr ((I 235 16) + 1)) 8) = ((wr ((I 235 16) + 1)) : Int) % 8 := Int.tmod_eq_emod_of_nonneg (by omega)
      refine ⟨_, rfl, (by decide), (show (0 : Int) ≤ (Int.tmod (wr ((I 235 16) + 1)) 8) from by first | omega | (simp only [wr, wl] at *; omega)), (show (Int.tmod (wr ((I 235 16) + 1)) 8) < (8 : Int) from by first | omega | (simp only [wr, wl] at *; omega)), ?_⟩
      refine ⟨_, rfl, (by decide), ?_⟩
      have a33 : -2147483648 ≤ (I 235 14) ∧ (I 235 14) < 2147483648 := hA.1 _ _
      refine ⟨fun (c34 : (¬ ((I 235 14) : Int) = 0)) => ?_, fun (c34 : (((I 235 14) : Int) = 0)) => ?_⟩
      ·
        exact ⟨rfl, fun hv hA' => hQ _ (Rg.u (Rg.u (Rg.u hR (Pr_x16 p4)) (Pr_f rfl)) (Pr_p (k := 242) rfl _ _)) hA' (fun k j hk => ((uI_o (by omega))).trans (((uI_o (by omega))).trans ((uI_o (by omega))))) (show (wr ((I 235 16) + 1)) = (I 235 16) + 1 from by first | omega | (simp only [wr, wl] at *; omega))⟩
      ·
        refine ⟨_, rfl, (by decide), ?_⟩
        refine ⟨fun c => absurd c (show (¬ ((1 : Int) = 0)) from by decide), fun _ => ?_⟩
        refine ⟨_, rfl, (by decide), ?_⟩
        exact ⟨rfl, fun hv hA' => hQ _ (Rg.u (Rg.u (Rg.u (Rg.u hR (Pr_x16 p4)) (Pr_f rfl)) (Pr_p (k := 242) rfl _ _)) (Pr_f rfl)) hA' (fun k j hk => ((uI_o (by omega))).trans (((uI_o (by omega))).trans (((uI_o (by omega))).trans ((uI_o (by omega)))))) (show (wr ((I 235 16) + 1)) = (I 235 16) + 1 from by first | omega | (simp only [wr, wl] at *; omega))⟩
theorem r_take (hF : FS F) (hR : Rg I)  (hQ : ∀ (I' : pI), Rg I' → AR I' → (∀ k j, ¬ ((k = 235 ∧ (j = 18)) ∨ k = 243 ∨ k = 244) → I' k j = I k j) → Q none F I') : CallN G (d + 4) kX12_takeReading [vr 235] NP F I Q := by
  refine CallN_in (fun hok hA => CallN_out ?_)
  refine Call_wp (lv := [some (vr 235), none, none, none]) (by decide) ckX12_takeReading [] rfl rfl ?_
  refine ⟨_, rfl, (by decide), ?_⟩
  have r1 : 0 ≤ (I 235 18) ∧ (I 235 18) ≤ 24 := Rg.f18 hR
  have a2 : -2147483648 ≤ (I 235 18) ∧ (I 235 18) < 2147483648 := hA.1 _ _
  refine ⟨fun (c3 : (¬ ((I 235 18) : Int) = 24)) => ?_, fun (c3 : (((I 235 18) : Int) = 24)) => ?_⟩
  ·
    refine ⟨_, rfl, (by decide), ?_⟩
    have r4 : 0 ≤ (I 235 16) ∧ (I 235 16) ≤ 20000000 := Rg.f16 hR
    refine ⟨_, rfl, (by decide), ?_⟩
    refine fun w0 hw0 => ?_; obtain rfl : w0 = some 236 := hw0.symm.trans (FS.g hF rfl)
    refine ⟨_, rfl, (by decide), (by decide), (by decide), ?_⟩
    have r5 : 0 ≤ (I 236 8) ∧ (I 236 8) ≤ 5 := Rg.n8 hR (Or.inl rfl)
    refine ⟨_, rfl, (by decide), ?_⟩
    refine fun w0 hw0 => ?_; obtain rfl : w0 = some 236 := hw0.symm.trans (FS.g hF rfl)
    refine ⟨_, rfl, (by decide), (by decide), (by decide), ?_⟩
    have a6 : -2147483648 ≤ (I 236 8) ∧ (I 236 8) < 2147483648 := hA.1 _ _
    refine ⟨fun (c7 : (¬ ((I 236 8) : Int) = 0)) => ?_, fun (c7 : (((I 236 8) : Int) = 0)) => ?_⟩
    ·
      have a8 : -2147483648 ≤ (I 235 16) ∧ (I 235 16) < 2147483648 := hA.1 _ _
      have n9 : (wr ((I 235 16) + 1)) = (I 235 16) + 1 := wr_id (show -2147483648 ≤ ((I 235 16) + 1 : Int) ∧ ((I 235 16) + 1 : Int) < 2147483648 from by omega)
      have n10 : (wr ((wr ((I 235 16) + 1)) - (I 236 8))) = (wr ((I 235 16) + 1)) - (I 236 8) := wr_id (show -2147483648 ≤ ((wr ((I 235 16) + 1)) - (I 236 8) : Int) ∧ ((wr ((I 235 16) + 1)) - (I 236 8) : Int) < 2147483648 from by omega)
      refine ⟨fun (c11 : ((1 : Int) ≤ (wr ((wr ((I 235 16) + 1)) - (I 236 8))))) => ?_, fun (c11 : (¬ ((1 : Int) ≤ (wr ((wr ((I 235 16) + 1)) - (I 236 8)))))) => ?_⟩
      ·
        refine ⟨_, rfl, (by decide), ?_⟩
        refine fun w0 hw0 => ?_; obtain rfl : w0 = some 242 := hw0.symm.trans (FS.g hF rfl)
        refine ⟨(by decide), ?_⟩
        have n12 : (Int.tmod (wr ((wr ((I 235 16) + 1)) - (I 236 8))) 8) = ((wr ((wr ((I 235 16) + 1)) - (I 236 8))) : Int) % 8 := Int.tmod_eq_emod_of_nonneg (by omega)
        refine ⟨_, rfl, (by decide), (show (0 : Int) ≤ (Int.tmod (wr ((wr ((I 235 16) + 1)) - (I 236 8))) 8) from by first | omega | (simp only [wr, wl] at *; omega)), (show (Int.tmod (wr ((wr ((I 235 16) + 1)) - (I 236 8))) 8) < (8 : Int) from by first | omega | (simp only [wr, wl] at *; omega)), ?_⟩
        refine ⟨_, rfl, (by decide), ?_⟩
        refine fun w0 hw0 => ?_; obtain rfl : w0 = some 236 := hw0.symm.trans (FS.g hF rfl)
        refine ⟨_, rfl, (by decide), (by decide), (by decide), ?_⟩
        have r13 : 0 ≤ (I 236 7) ∧ (I 236 7) ≤ 24 := Rg.n7 hR (Or.inl rfl)
        have a14 : -2147483648 ≤ (I 236 7) ∧ (I 236 7) < 2147483648 := hA.1 _ _
        refine ⟨fun (c15 : (((I 236 7) : Int) ≤ 0)) => ?_, fun (c15 : (¬ (((I 236 7) : Int) ≤ 0))) => ?_⟩
        ·
          refine ⟨_, rfl, (by decide), ?_⟩
          refine fun w0 hw0 => ?_; obtain rfl : w0 = some 243 := hw0.symm.trans (FS.g hF rfl)
          refine ⟨_, rfl, (by decide), ?_⟩
          refine ⟨_, rfl, (by decide), ?_⟩
          have r16 : 0 ≤ (I 235 12) ∧ (I 235 12) ≤ 20000000 := Rg.f12 hR
          refine ⟨_, rfl, (by decide), (by first | omega | (simp only [wr, wl] at *; omega)), (by first | omega | (simp only [wr, wl] at *; omega)), ?_⟩
          refine ⟨_, rfl, (by decide), ?_⟩
          refine fun w0 hw0 => ?_; obtain rfl : w0 = some 244 := hw0.symm.trans (FS.g hF rfl)
          refine ⟨_, rfl, (by decide), ?_⟩
          refine ⟨fun _ => ?_, fun c => absurd (show ((0 : Int) = 0) from by decide) c⟩
          refine ⟨_, rfl, (by decide), ?_⟩
          refine fun w0 hw0 => ?_; obtain rfl : w0 = some 236 := hw0.symm.trans (FS.g hF rfl)
          refine ⟨_, rfl, (by decide), (by decide), (by decide), ?_⟩
          have a17 : -2147483648 ≤ (I 242 (Int.toNat (Int.tmod (wr ((wr ((I 235 16) + 1)) - (I 236 8))) 8))) ∧ (I 242 (Int.toNat (Int.tmod (wr ((wr ((I 235 16) + 1)) - (I 236 8))) 8))) < 2147483648 := hA.1 _ _
          have a18 : -2147483648 ≤ (I 236 6) ∧ (I 236 6) < 2147483648 := hA.1 _ _
          refine ⟨fun (c19 : (((I 242 (Int.toNat (Int.tmod (wr ((wr ((I 235 16) + 1)) - (I 236 8))) 8))) : Int) ≤ (I 236 6))) => ?_, fun (c19 : (¬ (((I 242 (Int.toNat (Int.tmod (wr ((wr ((I 235 16) + 1)) - (I 236 8))) 8))) : Int) ≤ (I 236 6)))) => ?_⟩
          ·
            refine ⟨_, rfl, (by decide), (by first | omega | (simp only [wr, wl] at *; omega)), (by first | omega | (simp only [wr, wl] at *; omega)), ?_⟩
            refine ⟨_, rfl, (by decide), ?_⟩
            refine ⟨_, rfl, (by decide), ?_⟩
            have n20 : (wr ((I 235 18) + 1)) = (I 235 18) + 1 := wr_id (show -2147483648 ≤ ((I 235 18) + 1 : Int) ∧ ((I 235 18) + 1 : Int) < 2147483648 from by omega)
            have p21 : (0 : Int) ≤ (wr ((I 235 18) + 1)) ∧ ((wr ((I 235 18) + 1)) : Int) ≤ 24 := by first | omega | (simp only [wr, wl] at *; omega)
            exact ⟨rfl, fun hv hA' => hQ _ (Rg.u (Rg.u (Rg.u hR (Pr_p (k := 243) rfl _ _)) (Pr_p (k := 244) rfl _ _)) (Pr_x18 p21)) hA' (fun k j hk => ((uI_o (by omega))).trans (((uI_o (by omega))).trans ((uI_o (by omega)))))⟩
          ·
            refine ⟨_, rfl, (by decide), (by first | omega | (simp only [wr, wl] at *; omega)), (by first | omega | (simp only [wr, wl] at *; omega)), ?_⟩
            refine ⟨_, rfl, (by decide), ?_⟩
            refine ⟨_, rfl, (by decide), ?_⟩
            have n22 : (wr ((I 235 18) + 1)) = (I 235 18) + 1 := wr_id (show -2147483648 ≤ ((I 235 18) + 1 : Int) ∧ ((I 235 18) + 1 : Int) < 2147483648 from by omega)
            have p23 : (0 : Int) ≤ (wr ((I 235 18) + 1)) ∧ ((wr ((I 235 18) + 1)) : Int) ≤ 24 := by first | omega | (simp only [wr, wl] at *; omega)
            exact ⟨rfl, fun hv hA' => hQ _ (Rg.u (Rg.u (Rg.u hR (Pr_p (k := 243) rfl _ _)) (Pr_p (k := 244) rfl _ _)) (Pr_x18 p23)) hA' (fun k j hk => ((uI_o (by omega))).trans (((uI_o (by omega))).trans ((uI_o (by omega)))))⟩
        ·
          refine ⟨_, rfl, (by decide), ?_⟩
          refine ⟨_, rfl, (by decide), ?_⟩
          refine fun w0 hw0 => ?_; obtain rfl : w0 = some 236 := hw0.symm.trans (FS.g hF rfl)
          refine ⟨_, rfl, (by decide), (by decide), (by decide), ?_⟩
          refine ⟨(by first | omega | (simp only [wr, wl] at *; omega)), ?_⟩
          refine ⟨fun (c24 : (¬ ((Int.tmod (wr ((I 235 18) + 1)) (I 236 7)) : Int) = 0)) => ?_, fun (c24 : (((Int.tmod (wr ((I 235 18) + 1)) (I 236 7)) : Int) = 0)) => ?_⟩
          ·
            refine ⟨_, rfl, (by decide), ?_⟩
            refine fun w0 hw0 => ?_; obtain rfl : w0 = some 243 := hw0.symm.trans (FS.g hF rfl)
            refine ⟨_, rfl, (by decide), ?_⟩
            refine ⟨_, rfl, (by decide), ?_⟩
            have r25 : 0 ≤ (I 235 12) ∧ (I 235 12) ≤ 20000000 := Rg.f12 hR
            refine ⟨_, rfl, (by decide), (by first | omega | (simp only [wr, wl] at *; omega)), (by first | omega | (simp only [wr, wl] at *; omega)), ?_⟩
            refine ⟨_, rfl, (by decide), ?_⟩
            refine fun w0 hw0 => ?_; obtain rfl : w0 = some 244 := hw0.symm.trans (FS.g hF rfl)
            refine ⟨_, rfl, (by decide), ?_⟩
            refine ⟨fun _ => ?_, fun c => absurd (show ((0 : Int) = 0) from by decide) c⟩
            refine ⟨_, rfl, (by decide), ?_⟩
            refine fun w0 hw0 => ?_; obtain rfl : w0 = some 236 := hw0.symm.trans (FS.g hF rfl)
            refine ⟨_, rfl, (by decide), (by decide), (by decide), ?_⟩
            have a26 : -2147483648 ≤ (I 242 (Int.toNat (Int.tmod (wr ((wr ((I 235 16) + 1)) - (I 236 8))) 8))) ∧ (I 242 (Int.toNat (Int.tmod (wr ((wr ((I 235 16) + 1)) - (I 236 8))) 8))) < 2147483648 := hA.1 _ _
            have a27 : -2147483648 ≤ (I 236 6) ∧ (I 236 6) < 2147483648 := hA.1 _ _
            refine ⟨fun (c28 : (((I 242 (Int.toNat (Int.tmod (wr ((wr ((I 235 16) + 1)) - (I 236 8))) 8))) : Int) ≤ (I 236 6))) => ?_, fun (c28 : (¬ (((I 242 (Int.toNat (Int.tmod (wr ((wr ((I 235 16) + 1)) - (I 236 8))) 8))) : Int) ≤ (I 236 6)))) => ?_⟩
            ·
              refine ⟨_, rfl, (by decide), (by first | omega | (simp only [wr, wl] at *; omega)), (by first | omega | (simp only [wr, wl] at *; omega)), ?_⟩
              refine ⟨_, rfl, (by decide), ?_⟩
              refine ⟨_, rfl, (by decide), ?_⟩
              have n29 : (wr ((I 235 18) + 1)) = (I 235 18) + 1 := wr_id (show -2147483648 ≤ ((I 235 18) + 1 : Int) ∧ ((I 235 18) + 1 : Int) < 2147483648 from by omega)
              have p30 : (0 : Int) ≤ (wr ((I 235 18) + 1)) ∧ ((wr ((I 235 18) + 1)) : Int) ≤ 24 := by first | omega | (simp only [wr, wl] at *; omega)
              exact ⟨rfl, fun hv hA' => hQ _ (Rg.u (Rg.u (Rg.u hR (Pr_p (k := 243) rfl _ _)) (Pr_p (k := 244) rfl _ _)) (Pr_x18 p30)) hA' (fun k j hk => ((uI_o (by omega))).trans (((uI_o (by omega))).trans ((uI_o (by omega)))))⟩
            ·
              refine ⟨_, rfl, (by decide), (by first | omega | (simp only [wr, wl] at *; omega)), (by first | omega | (simp only [wr, wl] at *; omega)), ?_⟩
              refine ⟨_, rfl, (by decide), ?_⟩
              refine ⟨_, rfl, (by decide), ?_⟩
              have n31 : (wr ((I 235 18) + 1)) = (I 235 18) + 1 := wr_id (show -2147483648 ≤ ((I 235 18) + 1 : Int) ∧ ((I 235 18) + 1 : Int) < 2147483648 from by omega)
              have p32 : (0 : Int) ≤ (wr ((I 235 18) + 1)) ∧ ((wr ((I 235 18) + 1)) : Int) ≤ 24 := by first | omega | (simp only [wr, wl] at *; omega)
              exact ⟨rfl, fun hv hA' => hQ _ (Rg.u (Rg.u (Rg.u hR (Pr_p (k := 243) rfl _ _)) (Pr_p (k := 244) rfl _ _)) (Pr_x18 p32)) hA' (fun k j hk => ((uI_o (by omega))).trans (((uI_o (by omega))).trans ((uI_o (by omega)))))⟩
          ·
            refine ⟨_, rfl, (by decide), ?_⟩
            refine fun w0 hw0 => ?_; obtain rfl : w0 = some 243 := hw0.symm.trans (FS.g hF rfl)
            refine ⟨_, rfl, (by decide), ?_⟩
            refine ⟨_, rfl, (by decide), ?_⟩
            have r33 : 0 ≤ (I 235 12) ∧ (I 235 12) ≤ 20000000 := Rg.f12 hR
            refine ⟨_, rfl, (by decide), (by first | omega | (simp only [wr, wl] at *; omega)), (by first | omega | (simp only [wr, wl] at *; omega)), ?_⟩
            refine ⟨_, rfl, (by decide), ?_⟩
            refine fun w0 hw0 => ?_; obtain rfl : w0 = some 244 := hw0.symm.trans (FS.g hF rfl)
            refine ⟨_, rfl, (by decide), ?_⟩
            refine ⟨fun c => absurd c (show (¬ ((1 : Int) = 0)) from by decide), fun _ => ?_⟩
            refine ⟨_, rfl, (by decide), (by first | omega | (simp only [wr, wl] at *; omega)), (by first | omega | (simp only [wr, wl] at *; omega)), ?_⟩
            refine ⟨_, rfl, (by decide), ?_⟩
            refine ⟨_, rfl, (by decide), ?_⟩
            have n34 : (wr ((I 235 18) + 1)) = (I 235 18) + 1 := wr_id (show -2147483648 ≤ ((I 235 18) + 1 : Int) ∧ ((I 235 18) + 1 : Int) < 2147483648 from by omega)
            have p35 : (0 : Int) ≤ (wr ((I 235 18) + 1)) ∧ ((wr ((I 235 18) + 1)) : Int) ≤ 24 := by first | omega | (simp only [wr, wl] at *; omega)
            exact ⟨rfl, fun hv hA' => hQ _ (Rg.u (Rg.u (Rg.u hR (Pr_p (k := 243) rfl _ _)) (Pr_p (k := 244) rfl _ _)) (Pr_x18 p35)) hA' (fun k j hk => ((uI_o (by omega))).trans (((uI_o (by omega))).trans ((uI_o (by omega)))))⟩
      ·
        refine ⟨_, rfl, (by decide), ?_⟩
        refine fun w0 hw0 => ?_; obtain rfl : w0 = some 236 := hw0.symm.trans (FS.g hF rfl)
        refine ⟨_, rfl, (by decide), (by decide), (by decide), ?_⟩
        have r36 : 0 ≤ (I 236 7) ∧ (I 236 7) ≤ 24 := Rg.n7 hR (Or.inl rfl)
        have a37 : -2147483648 ≤ (I 236 7) ∧ (I 236 7) < 2147483648 := hA.1 _ _
        refine ⟨fun (c38 : (((I 236 7) : Int) ≤ 0)) => ?_, fun (c38 : (¬ (((I 236 7) : Int) ≤ 0))) => ?_⟩
        ·
          refine ⟨_, rfl, (by decide), ?_⟩
          refine fun w0 hw0 => ?_; obtain rfl : w0 = some 243 := hw0.symm.trans (FS.g hF rfl)
          refine ⟨_, rfl, (by decide), ?_⟩
          refine ⟨_, rfl, (by decide), ?_⟩
          have r39 : 0 ≤ (I 235 12) ∧ (I 235 12) ≤ 20000000 := Rg.f12 hR
          refine ⟨_, rfl, (by decide), (by first | omega | (simp only [wr, wl] at *; omega)), (by first | omega | (simp only [wr, wl] at *; omega)), ?_⟩
          refine ⟨_, rfl, (by decide), ?_⟩
          refine fun w0 hw0 => ?_; obtain rfl : w0 = some 244 := hw0.symm.trans (FS.g hF rfl)
          refine ⟨_, rfl, (by decide), ?_⟩
          refine ⟨fun _ => ?_, fun c => absurd (show ((0 : Int) = 0) from by decide) c⟩
          refine ⟨_, rfl, (by decide), ?_⟩
          refine fun w0 hw0 => ?_; obtain rfl : w0 = some 236 := hw0.symm.trans (FS.g hF rfl)
          refine ⟨_, rfl, (by decide), (by decide), (by decide), ?_⟩
          have a40 : -2147483648 ≤ (I 236 6) ∧ (I 236 6) < 2147483648 := hA.1 _ _
          refine ⟨fun (c41 : ((0 : Int) ≤ (I 236 6))) => ?_, fun (c41 : (¬ ((0 : Int) ≤ (I 236 6)))) => ?_⟩
          ·
            refine ⟨_, rfl, (by decide), (by first | omega | (simp only [wr, wl] at *; omega)), (by first | omega | (simp only [wr, wl] at *; omega)), ?_⟩
            refine ⟨_, rfl, (by decide), ?_⟩
            refine ⟨_, rfl, (by decide), ?_⟩
            have n42 : (wr ((I 235 18) + 1)) = (I 235 18) + 1 := wr_id (show -2147483648 ≤ ((I 235 18) + 1 : Int) ∧ ((I 235 18) + 1 : Int) < 2147483648 from by omega)
            have p43 : (0 : Int) ≤ (wr ((I 235 18) + 1)) ∧ ((wr ((I 235 18) + 1)) : Int) ≤ 24 := by first | omega | (simp only [wr, wl] at *; omega)
            exact ⟨rfl, fun hv hA' => hQ _ (Rg.u (Rg.u (Rg.u hR (Pr_p (k := 243) rfl _ _)) (Pr_p (k := 244) rfl _ _)) (Pr_x18 p43)) hA' (fun k j hk => ((uI_o (by omega))).trans (((uI_o (by omega))).trans ((uI_o (by omega)))))⟩
          ·
            refine ⟨_, rfl, (by decide), (by first | omega | (simp only [wr, wl] at *; omega)), (by first | omega | (simp only [wr, wl] at *; omega)), ?_⟩
            refine ⟨_, rfl, (by decide), ?_⟩
            refine ⟨_, rfl, (by decide), ?_⟩
            have n44 : (wr ((I 235 18) + 1)) = (I 235 18) + 1 := wr_id (show -2147483648 ≤ ((I 235 18) + 1 : Int) ∧ ((I 235 18) + 1 : Int) < 2147483648 from by omega)
            have p45 : (0 : Int) ≤ (wr ((I 235 18) + 1)) ∧ ((wr ((I 235 18) + 1)) : Int) ≤ 24 := by first | omega | (simp only [wr, wl] at *; omega)
            exact ⟨rfl, fun hv hA' => hQ _ (Rg.u (Rg.u (Rg.u hR (Pr_p (k := 243) rfl _ _)) (Pr_p (k := 244) rfl _ _)) (Pr_x18 p45)) hA' (fun k j hk => ((uI_o (by omega))).trans (((uI_o (by omega))).trans ((uI_o (by omega)))))⟩
        ·
          refine ⟨_, rfl, (by decide), ?_⟩
          refine ⟨_, rfl, (by decide), ?_⟩
          refine fun w0 hw0 => ?_; obtain rfl : w0 = some 236 := hw0.symm.trans (FS.g hF rfl)
          refine ⟨_, rfl, (by decide), (by decide), (by decide), ?_⟩
          refine ⟨(by first | omega | (simp only [wr, wl] at *; omega)), ?_⟩
          refine ⟨fun (c46 : (¬ ((Int.tmod (wr ((I 235 18) + 1)) (I 236 7)) : Int) = 0)) => ?_, fun (c46 : (((Int.tmod (wr ((I 235 18) + 1)) (I 236 7)) : Int) = 0)) => ?_⟩
          ·
            refine ⟨_, rfl, (by decide), ?_⟩
            refine fun w0 hw0 => ?_; obtain rfl : w0 = some 243 := hw0.symm.trans (FS.g hF rfl)
            refine ⟨_, rfl, (by decide), ?_⟩
            refine ⟨_, rfl, (by decide), ?_⟩
            have r47 : 0 ≤ (I 235 12) ∧ (I 235 12) ≤ 20000000 := Rg.f12 hR
            refine ⟨_, rfl, (by decide), (by first | omega | (simp only [wr, wl] at *; omega)), (by first | omega | (simp only [wr, wl] at *; omega)), ?_⟩
            refine ⟨_, rfl, (by decide), ?_⟩
            refine fun w0 hw0 => ?_; obtain rfl : w0 = some 244 := hw0.symm.trans (FS.g hF rfl)
            refine ⟨_, rfl, (by decide), ?_⟩
            refine ⟨fun _ => ?_, fun c => absurd (show ((0 : Int) = 0) from by decide) c⟩
            refine ⟨_, rfl, (by decide), ?_⟩
            refine fun w0 hw0 => ?_; obtain rfl : w0 = some 236 := hw0.symm.trans (FS.g hF rfl)
            refine ⟨_, rfl, (by decide), (by decide), (by decide), ?_⟩
            have a48 : -2147483648 ≤ (I 236 6) ∧ (I 236 6) < 2147483648 := hA.1 _ _
            refine ⟨fun (c49 : ((0 : Int) ≤ (I 236 6))) => ?_, fun (c49 : (¬ ((0 : Int) ≤ (I 236 6)))) => ?_⟩
            ·
              refine ⟨_, rfl, (by decide), (by first | omega | (simp only [wr, wl] at *; omega)), (by first | omega | (simp only [wr, wl] at *; omega)), ?_⟩
              refine ⟨_, rfl, (by decide), ?_⟩
              refine ⟨_, rfl, (by decide), ?_⟩
              have n50 : (wr ((I 235 18) + 1)) = (I 235 18) + 1 := wr_id (show -2147483648 ≤ ((I 235 18) + 1 : Int) ∧ ((I 235 18) + 1 : Int) < 2147483648 from by omega)
              have p51 : (0 : Int) ≤ (wr ((I 235 18) + 1)) ∧ ((wr ((I 235 18) + 1)) : Int) ≤ 24 := by first | omega | (simp only [wr, wl] at *; omega)
              exact ⟨rfl, fun hv hA' => hQ _ (Rg.u (Rg.u (Rg.u hR (Pr_p (k := 243) rfl _ _)) (Pr_p (k := 244) rfl _ _)) (Pr_x18 p51)) hA' (fun k j hk => ((uI_o (by omega))).trans (((uI_o (by omega))).trans ((uI_o (by omega)))))⟩
            ·
              refine ⟨_, rfl, (by decide), (by first | omega | (simp only [wr, wl] at *; omega)), (by first | omega | (simp only [wr, wl] at *; omega)), ?_⟩
              refine ⟨_, rfl, (by decide), ?_⟩
              refine ⟨_, rfl, (by decide), ?_⟩
              have n52 : (wr ((I 235 18) + 1)) = (I 235 18) + 1 := wr_id (show -2147483648 ≤ ((I 235 18) + 1 : Int) ∧ ((I 235 18) + 1 : Int) < 2147483648 from by omega)
              have p53 : (0 : Int) ≤ (wr ((I 235 18) + 1)) ∧ ((wr ((I 235 18) + 1)) : Int) ≤ 24 := by first | omega | (simp only [wr, wl] at *; omega)
              exact ⟨rfl, fun hv hA' => hQ _ (Rg.u (Rg.u (Rg.u hR (Pr_p (k := 243) rfl _ _)) (Pr_p (k := 244) rfl _ _)) (Pr_x18 p53)) hA' (fun k j hk => ((uI_o (by omega))).trans (((uI_o (by omega))).trans ((uI_o (by omega)))))⟩
          ·
            refine ⟨_, rfl, (by decide), ?_⟩
            refine fun w0 hw0 => ?_; obtain rfl : w0 = some 243 := hw0.symm.trans (FS.g hF rfl)
            refine ⟨_, rfl, (by decide), ?_⟩
            refine ⟨_, rfl, (by decide), ?_⟩
            have r54 : 0 ≤ (I 235 12) ∧ (I 235 12) ≤ 20000000 := Rg.f12 hR
            refine ⟨_, rfl, (by decide), (by first | omega | (simp only [wr, wl] at *; omega)), (by first | omega | (simp only [wr, wl] at *; omega)), ?_⟩
            refine ⟨_, rfl, (by decide), ?_⟩
            refine fun w0 hw0 => ?_; obtain rfl : w0 = some 244 := hw0.symm.trans (FS.g hF rfl)
            refine ⟨_, rfl, (by decide), ?_⟩
            refine ⟨fun c => absurd c (show (¬ ((1 : Int) = 0)) from by decide), fun _ => ?_⟩
            refine ⟨_, rfl, (by decide), (by first | omega | (simp only [wr, wl] at *; omega)), (by first | omega | (simp only [wr, wl] at *; omega)), ?_⟩
            refine ⟨_, rfl, (by decide), ?_⟩
            refine ⟨_, rfl, (by decide), ?_⟩
            have n55 : (wr ((I 235 18) + 1)) = (I 235 18) + 1 := wr_id (show -2147483648 ≤ ((I 235 18) + 1 : Int) ∧ ((I 235 18) + 1 : Int) < 2147483648 from by omega)
            have p56 : (0 : Int) ≤ (wr ((I 235 18) + 1)) ∧ ((wr ((I 235 18) + 1)) : Int) ≤ 24 := by first | omega | (simp only [wr, wl] at *; omega)
            exact ⟨rfl, fun hv hA' => hQ _ (Rg.u (Rg.u (Rg.u hR (Pr_p (k := 243) rfl _ _)) (Pr_p (k := 244) rfl _ _)) (Pr_x18 p56)) hA' (fun k j hk => ((uI_o (by omega))).trans (((uI_o (by omega))).trans ((uI_o (by omega)))))⟩
    ·
      refine ⟨⟨_, rfl, (by decide)⟩, ?_⟩
      refine Call_wp (lv := [some (vr 235)]) (by decide) ckX12_loadNow [] rfl rfl ?_
      refine ⟨_, rfl, (by decide), ?_⟩
      have a57 : -2147483648 ≤ (I 235 13) ∧ (I 235 13) < 2147483648 := hA.1 _ _
      refine ⟨fun (c58 : (((I 235 13) : Int) = 0)) => ?_, fun (c58 : (¬ (((I 235 13) : Int) = 0))) => ?_⟩
      ·
        refine ⟨_, rfl, (by decide), ?_⟩
        have r59 : 0 ≤ (I 235 11) ∧ (I 235 11) ≤ 13 := Rg.f11 hR
        refine ⟨_, rfl, (by decide), ?_⟩
        have r60 : 0 ≤ (I 235 12) ∧ (I 235 12) ≤ 20000000 := Rg.f12 hR
        refine ⟨⟨_, rfl, (by decide)⟩, ?_⟩
        have a61 : -2147483648 ≤ (I 235 11) ∧ (I 235 11) < 2147483648 := hA.1 _ _
        have a62 : -2147483648 ≤ (I 235 12) ∧ (I 235 12) < 2147483648 := hA.1 _ _
        refine r_answered hF hR (by omega) (by omega) (fun v63 hr64 => ?_)
        have hr64 : -2147483648 ≤ v63 ∧ v63 < 2147483648 := hr64
        refine ⟨rfl, ?_⟩
        refine ⟨_, rfl, (by decide), ?_⟩
        refine fun w0 hw0 => ?_; obtain rfl : w0 = some 236 := hw0.symm.trans (FS.g hF rfl)
        refine ⟨_, rfl, (by decide), (by decide), (by decide), ?_⟩
        have r65 : 0 ≤ (I 236 7) ∧ (I 236 7) ≤ 24 := Rg.n7 hR (Or.inl rfl)
        have a66 : -2147483648 ≤ (I 236 7) ∧ (I 236 7) < 2147483648 := hA.1 _ _
        refine ⟨fun (c67 : (((I 236 7) : Int) ≤ 0)) => ?_, fun (c67 : (¬ (((I 236 7) : Int) ≤ 0))) => ?_⟩
        ·
          refine ⟨_, rfl, (by decide), ?_⟩
          refine fun w0 hw0 => ?_; obtain rfl : w0 = some 243 := hw0.symm.trans (FS.g hF rfl)
          refine ⟨_, rfl, (by decide), ?_⟩
          refine ⟨_, rfl, (by decide), ?_⟩
          refine ⟨_, rfl, (by decide), (by first | omega | (simp only [wr, wl] at *; omega)), (by first | omega | (simp only [wr, wl] at *; omega)), ?_⟩
          refine ⟨_, rfl, (by decide), ?_⟩
          refine fun w0 hw0 => ?_; obtain rfl : w0 = some 244 := hw0.symm.trans (FS.g hF rfl)
          refine ⟨_, rfl, (by decide), ?_⟩
          refine ⟨fun _ => ?_, fun c => absurd (show ((0 : Int) = 0) from by decide) c⟩
          refine ⟨_, rfl, (by decide), ?_⟩
          refine fun w0 hw0 => ?_; obtain rfl : w0 = some 236 := hw0.symm.trans (FS.g hF rfl)
          refine ⟨_, rfl, (by decide), (by decide), (by decide), ?_⟩
          have a68 : -2147483648 ≤ (I 236 6) ∧ (I 236 6) < 2147483648 := hA.1 _ _
          refine ⟨fun (c69 : ((v63 : Int) ≤ (I 236 6))) => ?_, fun (c69 : (¬ ((v63 : Int) ≤ (I 236 6)))) => ?_⟩
          ·
            refine ⟨_, rfl, (by decide), (by first | omega | (simp only [wr, wl] at *; omega)), (by first | omega | (simp only [wr, wl] at *; omega)), ?_⟩
            refine ⟨_, rfl, (by decide), ?_⟩
            refine ⟨_, rfl, (by decide), ?_⟩
            have n70 : (wr ((I 235 18) + 1)) = (I 235 18) + 1 := wr_id (show -2147483648 ≤ ((I 235 18) + 1 : Int) ∧ ((I 235 18) + 1 : Int) < 2147483648 from by omega)
            have p71 : (0 : Int) ≤ (wr ((I 235 18) + 1)) ∧ ((wr ((I 235 18) + 1)) : Int) ≤ 24 := by first | omega | (simp only [wr, wl] at *; omega)
            exact ⟨rfl, fun hv hA' => hQ _ (Rg.u (Rg.u (Rg.u hR (Pr_p (k := 243) rfl _ _)) (Pr_p (k := 244) rfl _ _)) (Pr_x18 p71)) hA' (fun k j hk => ((uI_o (by omega))).trans (((uI_o (by omega))).trans ((uI_o (by omega)))))⟩
          ·
            refine ⟨_, rfl, (by decide), (by first | omega | (simp only [wr, wl] at *; omega)), (by first | omega | (simp only [wr, wl] at *; omega)), ?_⟩
            refine ⟨_, rfl, (by decide), ?_⟩
            refine ⟨_, rfl, (by decide), ?_⟩
            have n72 : (wr ((I 235 18) + 1)) = (I 235 18) + 1 := wr_id (show -2147483648 ≤ ((I 235 18) + 1 : Int) ∧ ((I 235 18) + 1 : Int) < 2147483648 from by omega)
            have p73 : (0 : Int) ≤ (wr ((I 235 18) + 1)) ∧ ((wr ((I 235 18) + 1)) : Int) ≤ 24 := by first | omega | (simp only [wr, wl] at *; omega)
            exact ⟨rfl, fun hv hA' => hQ _ (Rg.u (Rg.u (Rg.u hR (Pr_p (k := 243) rfl _ _)) (Pr_p (k := 244) rfl _ _)) (Pr_x18 p73)) hA' (fun k j hk => ((uI_o (by omega))).trans (((uI_o (by omega))).trans ((uI_o (by omega)))))⟩
        ·
          refine ⟨_, rfl, (by decide), ?_⟩
          refine ⟨_, rfl, (by decide), ?_⟩
          refine fun w0 hw0 => ?_; obtain rfl : w0 = some 236 := hw0.symm.trans (FS.g hF rfl)
          refine ⟨_, rfl, (by decide), (by decide), (by decide), ?_⟩
          refine ⟨(by first | omega | (simp only [wr, wl] at *; omega)), ?_⟩
          refine ⟨fun (c74 : (¬ ((Int.tmod (wr ((I 235 18) + 1)) (I 236 7)) : Int) = 0)) => ?_, fun (c74 : (((Int.tmod (wr ((I 235 18) + 1)) (I 236 7)) : Int) = 0)) => ?_⟩
          ·
            refine ⟨_, rfl, (by decide), ?_⟩
            refine fun w0 hw0 => ?_; obtain rfl : w0 = some 243 := hw0.symm.trans (FS.g hF rfl)
            refine ⟨_, rfl, (by decide), ?_⟩
            refine ⟨_, rfl, (by decide), ?_⟩
            refine ⟨_, rfl, (by decide), (by first | omega | (simp only [wr, wl] at *; omega)), (by first | omega | (simp only [wr, wl] at *; omega)), ?_⟩
            refine ⟨_, rfl, (by decide), ?_⟩
            refine fun w0 hw0 => ?_; obtain rfl : w0 = some 244 := hw0.symm.trans (FS.g hF rfl)
            refine ⟨_, rfl, (by decide), ?_⟩
            refine ⟨fun _ => ?_, fun c => absurd (show ((0 : Int) = 0) from by decide) c⟩
            refine ⟨_, rfl, (by decide), ?_⟩
            refine fun w0 hw0 => ?_; obtain rfl : w0 = some 236 := hw0.symm.trans (FS.g hF rfl)
            refine ⟨_, rfl, (by decide), (by decide), (by decide), ?_⟩
            have a75 : -2147483648 ≤ (I 236 6) ∧ (I 236 6) < 2147483648 := hA.1 _ _
            refine ⟨fun (c76 : ((v63 : Int) ≤ (I 236 6))) => ?_, fun (c76 : (¬ ((v63 : Int) ≤ (I 236 6)))) => ?_⟩
            ·
              refine ⟨_, rfl, (by decide), (by first | omega | (simp only [wr, wl] at *; omega)), (by first | omega | (simp only [wr, wl] at *; omega)), ?_⟩
              refine ⟨_, rfl, (by decide), ?_⟩
              refine ⟨_, rfl, (by decide), ?_⟩
              have n77 : (wr ((I 235 18) + 1)) = (I 235 18) + 1 := wr_id (show -2147483648 ≤ ((I 235 18) + 1 : Int) ∧ ((I 235 18) + 1 : Int) < 2147483648 from by omega)
              have p78 : (0 : Int) ≤ (wr ((I 235 18) + 1)) ∧ ((wr ((I 235 18) + 1)) : Int) ≤ 24 := by first | omega | (simp only [wr, wl] at *; omega)
              exact ⟨rfl, fun hv hA' => hQ _ (Rg.u (Rg.u (Rg.u hR (Pr_p (k := 243) rfl _ _)) (Pr_p (k := 244) rfl _ _)) (Pr_x18 p78)) hA' (fun k j hk => ((uI_o (by omega))).trans (((uI_o (by omega))).trans ((uI_o (by omega)))))⟩
            ·
              refine ⟨_, rfl, (by decide), (by first | omega | (simp only [wr, wl] at *; omega)), (by first | omega | (simp only [wr, wl] at *; omega)), ?_⟩
              refine ⟨_, rfl, (by decide), ?_⟩
              refine ⟨_, rfl, (by decide), ?_⟩
              have n79 : (wr ((I 235 18) + 1)) = (I 235 18) + 1 := wr_id (show -2147483648 ≤ ((I 235 18) + 1 : Int) ∧ ((I 235 18) + 1 : Int) < 2147483648 from by omega)
              have p80 : (0 : Int) ≤ (wr ((I 235 18) + 1)) ∧ ((wr ((I 235 18) + 1)) : Int) ≤ 24 := by first | omega | (simp only [wr, wl] at *; omega)
              exact ⟨rfl, fun hv hA' => hQ _ (Rg.u (Rg.u (Rg.u hR (Pr_p (k := 243) rfl _ _)) (Pr_p (k := 244) rfl _ _)) (Pr_x18 p80)) hA' (fun k j hk => ((uI_o (by omega))).trans (((uI_o (by omega))).trans ((uI_o (by omega)))))⟩
          ·
            refine ⟨_, rfl, (by decide), ?_⟩
            refine fun w0 hw0 => ?_; obtain rfl : w0 = some 243 := hw0.symm.trans (FS.g hF rfl)
            refine ⟨_, rfl, (by decide), ?_⟩
            refine ⟨_, rfl, (by decide), ?_⟩
            refine ⟨_, rfl, (by decide), (by first | omega | (simp only [wr, wl] at *; omega)), (by first | omega | (simp only [wr, wl] at *; omega)), ?_⟩
            refine ⟨_, rfl, (by decide), ?_⟩
            refine fun w0 hw0 => ?_; obtain rfl : w0 = some 244 := hw0.symm.trans (FS.g hF rfl)
            refine ⟨_, rfl, (by decide), ?_⟩
            refine ⟨fun c => absurd c (show (¬ ((1 : Int) = 0)) from by decide), fun _ => ?_⟩
            refine ⟨_, rfl, (by decide), (by first | omega | (simp only [wr, wl] at *; omega)), (by first | omega | (simp only [wr, wl] at *; omega)), ?_⟩
            refine ⟨_, rfl, (by decide), ?_⟩
            refine ⟨_, rfl, (by decide), ?_⟩
            have n81 : (wr ((I 235 18) + 1)) = (I 235 18) + 1 := wr_id (show -2147483648 ≤ ((I 235 18) + 1 : Int) ∧ ((I 235 18) + 1 : Int) < 2147483648 from by omega)
            have p82 : (0 : Int) ≤ (wr ((I 235 18) + 1)) ∧ ((wr ((I 235 18) + 1)) : Int) ≤ 24 := by first | omega | (simp only [wr, wl] at *; omega)
            exact ⟨rfl, fun hv hA' => hQ _ (Rg.u (Rg.u (Rg.u hR (Pr_p (k := 243) rfl _ _)) (Pr_p (k := 244) rfl _ _)) (Pr_x18 p82)) hA' (fun k j hk => ((uI_o (by omega))).trans (((uI_o (by omega))).trans ((uI_o (by omega)))))⟩
      ·
        refine ⟨rfl, ?_⟩
        refine ⟨_, rfl, (by decide), ?_⟩
        refine fun w0 hw0 => ?_; obtain rfl : w0 = some 236 := hw0.symm.trans (FS.g hF rfl)
        refine ⟨_, rfl, (by decide), (by decide), (by decide), ?_⟩
        have r83 : 0 ≤ (I 236 7) ∧ (I 236 7) ≤ 24 := Rg.n7 hR (Or.inl rfl)
        have a84 : -2147483648 ≤ (I 236 7) ∧ (I 236 7) < 2147483648 := hA.1 _ _
        refine ⟨fun (c85 : (((I 236 7) : Int) ≤ 0)) => ?_, fun (c85 : (¬ (((I 236 7) : Int) ≤ 0))) => ?_⟩
        ·
          refine ⟨_, rfl, (by decide), ?_⟩
          refine fun w0 hw0 => ?_; obtain rfl : w0 = some 243 := hw0.symm.trans (FS.g hF rfl)
          refine ⟨_, rfl, (by decide), ?_⟩
          refine ⟨_, rfl, (by decide), ?_⟩
          have r86 : 0 ≤ (I 235 12) ∧ (I 235 12) ≤ 20000000 := Rg.f12 hR
          refine ⟨_, rfl, (by decide), (by first | omega | (simp only [wr, wl] at *; omega)), (by first | omega | (simp only [wr, wl] at *; omega)), ?_⟩
          refine ⟨_, rfl, (by decide), ?_⟩
          refine fun w0 hw0 => ?_; obtain rfl : w0 = some 244 := hw0.symm.trans (FS.g hF rfl)
          refine ⟨_, rfl, (by decide), ?_⟩
          refine ⟨fun _ => ?_, fun c => absurd (show ((0 : Int) = 0) from by decide) c⟩
          refine ⟨_, rfl, (by decide), ?_⟩
          refine fun w0 hw0 => ?_; obtain rfl : w0 = some 236 := hw0.symm.trans (FS.g hF rfl)
          refine ⟨_, rfl, (by decide), (by decide), (by decide), ?_⟩
          have a87 : -2147483648 ≤ (I 236 6) ∧ (I 236 6) < 2147483648 := hA.1 _ _
          refine ⟨fun (c88 : ((0 : Int) ≤ (I 236 6))) => ?_, fun (c88 : (¬ ((0 : Int) ≤ (I 236 6)))) => ?_⟩
          ·
            refine ⟨_, rfl, (by decide), (by first | omega | (simp only [wr, wl] at *; omega)), (by first | omega | (simp only [wr, wl] at *; omega)), ?_⟩
            refine ⟨_, rfl, (by decide), ?_⟩
            refine ⟨_, rfl, (by decide), ?_⟩
            have n89 : (wr ((I 235 18) + 1)) = (I 235 18) + 1 := wr_id (show -2147483648 ≤ ((I 235 18) + 1 : Int) ∧ ((I 235 18) + 1 : Int) < 2147483648 from by omega)
            have p90 : (0 : Int) ≤ (wr ((I 235 18) + 1)) ∧ ((wr ((I 235 18) + 1)) : Int) ≤ 24 := by first | omega | (simp only [wr, wl] at *; omega)
            exact ⟨rfl, fun hv hA' => hQ _ (Rg.u (Rg.u (Rg.u hR (Pr_p (k := 243) rfl _ _)) (Pr_p (k := 244) rfl _ _)) (Pr_x18 p90)) hA' (fun k j hk => ((uI_o (by omega))).trans (((uI_o (by omega))).trans ((uI_o (by omega)))))⟩
          ·
            refine ⟨_, rfl, (by decide), (by first | omega | (simp only [wr, wl] at *; omega)), (by first | omega | (simp only [wr, wl] at *; omega)), ?_⟩
            refine ⟨_, rfl, (by decide), ?_⟩
            refine ⟨_, rfl, (by decide), ?_⟩
            have n91 : (wr ((I 235 18) + 1)) = (I 235 18) + 1 := wr_id (show -2147483648 ≤ ((I 235 18) + 1 : Int) ∧ ((I 235 18) + 1 : Int) < 2147483648 from by omega)
            have p92 : (0 : Int) ≤ (wr ((I 235 18) + 1)) ∧ ((wr ((I 235 18) + 1)) : Int) ≤ 24 := by first | omega | (simp only [wr, wl] at *; omega)
            exact ⟨rfl, fun hv hA' => hQ _ (Rg.u (Rg.u (Rg.u hR (Pr_p (k := 243) rfl _ _)) (Pr_p (k := 244) rfl _ _)) (Pr_x18 p92)) hA' (fun k j hk => ((uI_o (by omega))).trans (((uI_o (by omega))).trans ((uI_o (by omega)))))⟩
        ·
          refine ⟨_, rfl, (by decide), ?_⟩
          refine ⟨_, rfl, (by decide), ?_⟩
          refine fun w0 hw0 => ?_; obtain rfl : w0 = some 236 := hw0.symm.trans (FS.g hF rfl)
          refine ⟨_, rfl, (by decide), (by decide), (by decide), ?_⟩
          refine ⟨(by first | omega | (simp only [wr, wl] at *; omega)), ?_⟩
          refine ⟨fun (c93 : (¬ ((Int.tmod (wr ((I 235 18) + 1)) (I 236 7)) : Int) = 0)) => ?_, fun (c93 : (((Int.tmod (wr ((I 235 18) + 1)) (I 236 7)) : Int) = 0)) => ?_⟩
          ·
            refine ⟨_, rfl, (by decide), ?_⟩
            refine fun w0 hw0 => ?_; obtain rfl : w0 = some 243 := hw0.symm.trans (FS.g hF rfl)
            refine ⟨_, rfl, (by decide), ?_⟩
            refine ⟨_, rfl, (by decide), ?_⟩
            have r94 : 0 ≤ (I 235 12) ∧ (I 235 12) ≤ 20000000 := Rg.f12 hR
            refine ⟨_, rfl, (by decide), (by first | omega | (simp only [wr, wl] at *; omega)), (by first | omega | (simp only [wr, wl] at *; omega)), ?_⟩
            refine ⟨_, rfl, (by decide), ?_⟩
            refine fun w0 hw0 => ?_; obtain rfl : w0 = some 244 := hw0.symm.trans (FS.g hF rfl)
            refine ⟨_, rfl, (by decide), ?_⟩
            refine ⟨fun _ => ?_, fun c => absurd (show ((0 : Int) = 0) from by decide) c⟩
            refine ⟨_, rfl, (by decide), ?_⟩
            refine fun w0 hw0 => ?_; obtain rfl : w0 = some 236 := hw0.symm.trans (FS.g hF rfl)
            refine ⟨_, rfl, (by decide), (by decide), (by decide), ?_⟩
            have a95 : -2147483648 ≤ (I 236 6) ∧ (I 236 6) < 2147483648 := hA.1 _ _
            refine ⟨fun (c96 : ((0 : Int) ≤ (I 236 6))) => ?_, fun (c96 : (¬ ((0 : Int) ≤ (I 236 6)))) => ?_⟩
            ·
              refine ⟨_, rfl, (by decide), (by first | omega | (simp only [wr, wl] at *; omega)), (by first | omega | (simp only [wr, wl] at *; omega)), ?_⟩
              refine ⟨_, rfl, (by decide), ?_⟩
              refine ⟨_, rfl, (by decide), ?_⟩
              have n97 : (wr ((I 235 18) + 1)) = (I 235 18) + 1 := wr_id (show -2147483648 ≤ ((I 235 18) + 1 : Int) ∧ ((I 235 18) + 1 : Int) < 2147483648 from by omega)
              have p98 : (0 : Int) ≤ (wr ((I 235 18) + 1)) ∧ ((wr ((I 235 18) + 1)) : Int) ≤ 24 := by first | omega | (simp only [wr, wl] at *; omega)
              exact ⟨rfl, fun hv hA' => hQ _ (Rg.u (Rg.u (Rg.u hR (Pr_p (k := 243) rfl _ _)) (Pr_p (k := 244) rfl _ _)) (Pr_x18 p98)) hA' (fun k j hk => ((uI_o (by omega))).trans (((uI_o (by omega))).trans ((uI_o (by omega)))))⟩
            ·
              refine ⟨_, rfl, (by decide), (by first | omega | (simp only [wr, wl] at *; omega)), (by first | omega | (simp only [wr, wl] at *; omega)), ?_⟩
              refine ⟨_, rfl, (by decide), ?_⟩
              refine ⟨_, rfl, (by decide), ?_⟩
              have n99 : (wr ((I 235 18) + 1)) = (I 235 18) + 1 := wr_id (show -2147483648 ≤ ((I 235 18) + 1 : Int) ∧ ((I 235 18) + 1 : Int) < 2147483648 from by omega)
              have p100 : (0 : Int) ≤ (wr ((I 235 18) + 1)) ∧ ((wr ((I 235 18) + 1)) : Int) ≤ 24 := by first | omega | (simp only [wr, wl] at *; omega)
              exact ⟨rfl, fun hv hA' => hQ _ (Rg.u (Rg.u (Rg.u hR (Pr_p (k := 243) rfl _ _)) (Pr_p (k := 244) rfl _ _)) (Pr_x18 p100)) hA' (fun k j hk => ((uI_o (by omega))).trans (((uI_o (by omega))).trans ((uI_o (by omega)))))⟩
          ·
            refine ⟨_, rfl, (by decide), ?_⟩
            refine fun w0 hw0 => ?_; obtain rfl : w0 = some 243 := hw0.symm.trans (FS.g hF rfl)
            refine ⟨_, rfl, (by decide), ?_⟩
            refine ⟨_, rfl, (by decide), ?_⟩
            have r101 : 0 ≤ (I 235 12) ∧ (I 235 12) ≤ 20000000 := Rg.f12 hR
            refine ⟨_, rfl, (by decide), (by first | omega | (simp only [wr, wl] at *; omega)), (by first | omega | (simp only [wr, wl] at *; omega)), ?_⟩
            refine ⟨_, rfl, (by decide), ?_⟩
            refine fun w0 hw0 => ?_; obtain rfl : w0 = some 244 := hw0.symm.trans (FS.g hF rfl)
            refine ⟨_, rfl, (by decide), ?_⟩
            refine ⟨fun c => absurd c (show (¬ ((1 : Int) = 0)) from by decide), fun _ => ?_⟩
            refine ⟨_, rfl, (by decide), (by first | omega | (simp only [wr, wl] at *; omega)), (by first | omega | (simp only [wr, wl] at *; omega)), ?_⟩
            refine ⟨_, rfl, (by decide), ?_⟩
            refine ⟨_, rfl, (by decide), ?_⟩
            have n102 : (wr ((I 235 18) + 1)) = (I 235 18) + 1 := wr_id (show -2147483648 ≤ ((I 235 18) + 1 : Int) ∧ ((I 235 18) + 1 : Int) < 2147483648 from by omega)
            have p103 : (0 : Int) ≤ (wr ((I 235 18) + 1)) ∧ ((wr ((I 235 18) + 1)) : Int) ≤ 24 := by first | omega | (simp only [wr, wl] at *; omega)
            exact ⟨rfl, fun hv hA' => hQ _ (Rg.u (Rg.u (Rg.u hR (Pr_p (k := 243) rfl _ _)) (Pr_p (k := 244) rfl _ _)) (Pr_x18 p103)) hA' (fun k j hk => ((uI_o (by omega))).trans (((uI_o (by omega))).trans ((uI_o (by omega)))))⟩
  ·
    exact ⟨rfl, fun hv hA' => hQ _ hR hA' (fun _ _ _ => rfl)⟩
theorem r_does_l (hF : FS F) (hR : Rg I) {v0 v1 : Int} (B : Int) (hB : 0 ≤ B ∧ B ≤ 19000000) (hQ : ∀ (I' : pI), Rg I' → (∀ k j, ¬ ((k = 235 ∧ 12 ≤ j ∧ j ≤ 18) ∨ (242 ≤ k ∧ k ≤ 244)) → I' k j = I k j) → ((I' 235 16) ≤ B + 300000) → ((I' 235 12) ≤ B + 300000) → Q none F I') : ∀ (m : Nat) (tm k : Int) (J : pI), Rg J → (∀ k j, ¬ ((k = 235 ∧ 12 ≤ j ∧ j ≤ 18) ∨ (242 ≤ k ∧ k ≤ 244)) → J k j = I k j) → (tm : Int) ≤ 300000 → (0 : Int) ≤ k → (k : Int) ≤ 300000 → (J 235 16) ≤ B + k → (J 235 12) ≤ B + k → (tm - k).toNat < m → GoN G (d + 5) kX12_does NP NP 30 [some (vr 235), some (vi v0), some (vi v1), some (vi tm), some (vi k)] [] F J Q := by
  intro m
  induction m with
  | zero => intro tm k J hJ hV _ _ _ _ _ h; exact absurd h (Nat.not_lt_zero _)
  | succ m ih =>
    intro tm k J hJ hV c100 c101 c102 c103 c104 hm
    refine GoN_in (fun hok hA => ?_)
    have iv0 : -2147483648 ≤ v0 ∧ v0 < 2147483648 := hok 1 _ rfl
    have iv1 : -2147483648 ≤ v1 ∧ v1 < 2147483648 := hok 2 _ rfl
    have itm : -2147483648 ≤ tm ∧ tm < 2147483648 := hok 3 _ rfl
    have ik : -2147483648 ≤ k ∧ k < 2147483648 := hok 4 _ rfl
    have r1 : 0 ≤ (J 235 16) ∧ (J 235 16) ≤ 20000000 := Rg.f16 hJ
    have a2 : -2147483648 ≤ (J 235 16) ∧ (J 235 16) < 2147483648 := hA.1 _ _
    have r3 : 0 ≤ (J 235 12) ∧ (J 235 12) ≤ 20000000 := Rg.f12 hJ
    have a4 : -2147483648 ≤ (J 235 12) ∧ (J 235 12) < 2147483648 := hA.1 _ _
    refine Go_wp (by decide) ckX12_does [30] ?_
    refine ⟨fun (c5 : ((tm : Int) ≤ k)) => ?_, fun (c5 : (¬ ((tm : Int) ≤ k))) => ?_⟩
    ·
      exact ⟨rfl, hQ _ hJ (fun k j hk => (hV k j (by omega))) (show (J 235 16) ≤ B + 300000 from by first | omega | (simp only [wr, wl] at *; omega)) (show (J 235 12) ≤ B + 300000 from by first | omega | (simp only [wr, wl] at *; omega))⟩
    ·
      refine ⟨⟨_, rfl, (by decide)⟩, ?_⟩
      refine Call_wp (lv := [some (vr 235)]) (by decide) ckX12_goesOn [] rfl rfl ?_
      refine ⟨_, rfl, (by decide), ?_⟩
      have u6 : (J 235 14) = (I 235 14) := hV _ _ (by omega)
      have a7 : -2147483648 ≤ (I 235 14) ∧ (I 235 14) < 2147483648 := hA.1 _ _
      have a8 : -2147483648 ≤ (J 235 14) ∧ (J 235 14) < 2147483648 := hA.1 _ _
      refine ⟨fun (c9 : (¬ ((J 235 14) : Int) = 0)) => ?_, fun (c9 : (((J 235 14) : Int) = 0)) => ?_⟩
      ·
        refine ⟨rfl, (by decide), ?_⟩
        refine ⟨fun c => absurd c (show (¬ ((1 : Int) = 0)) from by decide), fun _ => ?_⟩
        refine ⟨fun (c10 : ((v0 : Int) = 0)) => ?_, fun (c10 : (¬ ((v0 : Int) = 0))) => ?_⟩
        ·
          refine ⟨_, rfl, (by decide), ?_⟩
          refine ⟨_, rfl, (by decide), ?_⟩
          have n11 : (wr ((J 235 12) + 1)) = (J 235 12) + 1 := wr_id (show -2147483648 ≤ ((J 235 12) + 1 : Int) ∧ ((J 235 12) + 1 : Int) < 2147483648 from by omega)
          have p12 : (0 : Int) ≤ (wr ((J 235 12) + 1)) ∧ ((wr ((J 235 12) + 1)) : Int) ≤ 20000000 := by first | omega | (simp only [wr, wl] at *; omega)
          refine ⟨⟨_, rfl, (by decide)⟩, ?_⟩
          refine r_tick hF (Rg.u hJ (Pr_x12 p12)) (show (J 235 16) ≤ 19999999 from by first | omega | (simp only [wr, wl] at *; omega)) (fun I13 hR14 hA15 hW16 q17 => ?_)
          have n18 : (wr (k + 1)) = k + 1 := wr_id (show -2147483648 ≤ (k + 1 : Int) ∧ (k + 1 : Int) < 2147483648 from by omega)
          have r19 : 0 ≤ (I13 235 16) ∧ (I13 235 16) ≤ 20000000 := Rg.f16 hR14
          have a20 : -2147483648 ≤ (I13 235 16) ∧ (I13 235 16) < 2147483648 := hA15.1 _ _
          have u21 : (I13 235 12) = ((uI J 235 12 (wr ((J 235 12) + 1))) 235 12) := hW16 _ _ (by omega)
          have u22 : ((uI J 235 12 (wr ((J 235 12) + 1))) 235 12) = (wr ((J 235 12) + 1)) := rfl
          have r23 : 0 ≤ (I13 235 12) ∧ (I13 235 12) ≤ 20000000 := Rg.f12 hR14
          have a24 : -2147483648 ≤ (I13 235 12) ∧ (I13 235 12) < 2147483648 := hA15.1 _ _
          exact ih tm (wr (k + 1)) I13 hR14 (fun k j hk => ((hW16 k j (by omega))).trans (((uI_o (by omega))).trans ((hV k j (by omega))))) (show (tm : Int) ≤ 300000 from by first | omega | (simp only [wr, wl] at *; omega)) (show (0 : Int) ≤ (wr (k + 1)) from by first | omega | (simp only [wr, wl] at *; omega)) (show ((wr (k + 1)) : Int) ≤ 300000 from by first | omega | (simp only [wr, wl] at *; omega)) (show (I13 235 16) ≤ B + (wr (k + 1)) from by first | omega | (simp only [wr, wl] at *; omega)) (show (I13 235 12) ≤ B + (wr (k + 1)) from by first | omega | (simp only [wr, wl] at *; omega)) (show (tm - (wr (k + 1))).toNat < m from by omega)
        ·
          refine ⟨fun (c25 : ((v0 : Int) = 1)) => ?_, fun (c25 : (¬ ((v0 : Int) = 1))) => ?_⟩
          ·
            refine ⟨⟨_, rfl, (by decide)⟩, ?_⟩
            refine Call_wp (lv := [some (vr 235)]) (by decide) ckX12_loadNow [] rfl rfl ?_
            refine ⟨_, rfl, (by decide), ?_⟩
            have a26 : -2147483648 ≤ (J 235 13) ∧ (J 235 13) < 2147483648 := hA.1 _ _
            refine ⟨fun (c27 : (((J 235 13) : Int) = 0)) => ?_, fun (c27 : (¬ (((J 235 13) : Int) = 0))) => ?_⟩
            ·
              refine ⟨_, rfl, (by decide), ?_⟩
              have r28 : 0 ≤ (I 235 11) ∧ (I 235 11) ≤ 13 := Rg.f11 hR
              have u29 : (J 235 11) = (I 235 11) := hV _ _ (by omega)
              have a30 : -2147483648 ≤ (I 235 11) ∧ (I 235 11) < 2147483648 := hA.1 _ _
              have r31 : 0 ≤ (J 235 11) ∧ (J 235 11) ≤ 13 := Rg.f11 hJ
              refine ⟨_, rfl, (by decide), ?_⟩
              refine ⟨⟨_, rfl, (by decide)⟩, ?_⟩
              have a32 : -2147483648 ≤ (J 235 11) ∧ (J 235 11) < 2147483648 := hA.1 _ _
              refine r_answered hF hJ (by omega) (by omega) (fun v33 hr34 => ?_)
              have hr34 : -2147483648 ≤ v33 ∧ v33 < 2147483648 := hr34
              refine ⟨rfl, ?_⟩
              refine ⟨fun (c35 : ((v33 : Int) < v1)) => ?_, fun (c35 : (¬ ((v33 : Int) < v1))) => ?_⟩
              ·
                refine ⟨_, rfl, (by decide), ?_⟩
                refine ⟨_, rfl, (by decide), ?_⟩
                have n36 : (wr ((J 235 12) + 1)) = (J 235 12) + 1 := wr_id (show -2147483648 ≤ ((J 235 12) + 1 : Int) ∧ ((J 235 12) + 1 : Int) < 2147483648 from by omega)
                have p37 : (0 : Int) ≤ (wr ((J 235 12) + 1)) ∧ ((wr ((J 235 12) + 1)) : Int) ≤ 20000000 := by first | omega | (simp only [wr, wl] at *; omega)
                refine ⟨⟨_, rfl, (by decide)⟩, ?_⟩
                refine r_tick hF (Rg.u hJ (Pr_x12 p37)) (show (J 235 16) ≤ 19999999 from by first | omega | (simp only [wr, wl] at *; omega)) (fun I38 hR39 hA40 hW41 q42 => ?_)
                have n43 : (wr (k + 1)) = k + 1 := wr_id (show -2147483648 ≤ (k + 1 : Int) ∧ (k + 1 : Int) < 2147483648 from by omega)
                have r44 : 0 ≤ (I38 235 16) ∧ (I38 235 16) ≤ 20000000 := Rg.f16 hR39
                have a45 : -2147483648 ≤ (I38 235 16) ∧ (I38 235 16) < 2147483648 := hA40.1 _ _
                have u46 : (I38 235 12) = ((uI J 235 12 (wr ((J 235 12) + 1))) 235 12) := hW41 _ _ (by omega)
                have u47 : ((uI J 235 12 (wr ((J 235 12) + 1))) 235 12) = (wr ((J 235 12) + 1)) := rfl
                have r48 : 0 ≤ (I38 235 12) ∧ (I38 235 12) ≤ 20000000 := Rg.f12 hR39
                have a49 : -2147483648 ≤ (I38 235 12) ∧ (I38 235 12) < 2147483648 := hA40.1 _ _
                exact ih tm (wr (k + 1)) I38 hR39 (fun k j hk => ((hW41 k j (by omega))).trans (((uI_o (by omega))).trans ((hV k j (by omega))))) (show (tm : Int) ≤ 300000 from by first | omega | (simp only [wr, wl] at *; omega)) (show (0 : Int) ≤ (wr (k + 1)) from by first | omega | (simp only [wr, wl] at *; omega)) (show ((wr (k + 1)) : Int) ≤ 300000 from by first | omega | (simp only [wr, wl] at *; omega)) (show (I38 235 16) ≤ B + (wr (k + 1)) from by first | omega | (simp only [wr, wl] at *; omega)) (show (I38 235 12) ≤ B + (wr (k + 1)) from by first | omega | (simp only [wr, wl] at *; omega)) (show (tm - (wr (k + 1))).toNat < m from by omega)
              ·
                exact ⟨rfl, hQ _ hJ (fun k j hk => (hV k j (by omega))) (show (J 235 16) ≤ B + 300000 from by first | omega | (simp only [wr, wl] at *; omega)) (show (J 235 12) ≤ B + 300000 from by first | omega | (simp only [wr, wl] at *; omega))⟩
            ·
              refine ⟨rfl, ?_⟩
              refine ⟨fun (c50 : ((0 : Int) < v1)) => ?_, fun (c50 : (¬ ((0 : Int) < v1))) => ?_⟩
              ·
                refine ⟨_, rfl, (by decide), ?_⟩
                refine ⟨_, rfl, (by decide), ?_⟩
                have n51 : (wr ((J 235 12) + 1)) = (J 235 12) + 1 := wr_id (show -2147483648 ≤ ((J 235 12) + 1 : Int) ∧ ((J 235 12) + 1 : Int) < 2147483648 from by omega)
                have p52 : (0 : Int) ≤ (wr ((J 235 12) + 1)) ∧ ((wr ((J 235 12) + 1)) : Int) ≤ 20000000 := by first | omega | (simp only [wr, wl] at *; omega)
                refine ⟨⟨_, rfl, (by decide)⟩, ?_⟩
                refine r_tick hF (Rg.u hJ (Pr_x12 p52)) (show (J 235 16) ≤ 19999999 from by first | omega | (simp only [wr, wl] at *; omega)) (fun I53 hR54 hA55 hW56 q57 => ?_)
                have n58 : (wr (k + 1)) = k + 1 := wr_id (show -2147483648 ≤ (k + 1 : Int) ∧ (k + 1 : Int) < 2147483648 from by omega)
                have r59 : 0 ≤ (I53 235 16) ∧ (I53 235 16) ≤ 20000000 := Rg.f16 hR54
                have a60 : -2147483648 ≤ (I53 235 16) ∧ (I53 235 16) < 2147483648 := hA55.1 _ _
                have u61 : (I53 235 12) = ((uI J 235 12 (wr ((J 235 12) + 1))) 235 12) := hW56 _ _ (by omega)
                have u62 : ((uI J 235 12 (wr ((J 235 12) + 1))) 235 12) = (wr ((J 235 12) + 1)) := rfl
                have r63 : 0 ≤ (I53 235 12) ∧ (I53 235 12) ≤ 20000000 := Rg.f12 hR54
                have a64 : -2147483648 ≤ (I53 235 12) ∧ (I53 235 12) < 2147483648 := hA55.1 _ _
                exact ih tm (wr (k + 1)) I53 hR54 (fun k j hk => ((hW56 k j (by omega))).trans (((uI_o (by omega))).trans ((hV k j (by omega))))) (show (tm : Int) ≤ 300000 from by first | omega | (simp only [wr, wl] at *; omega)) (show (0 : Int) ≤ (wr (k + 1)) from by first | omega | (simp only [wr, wl] at *; omega)) (show ((wr (k + 1)) : Int) ≤ 300000 from by first | omega | (simp only [wr, wl] at *; omega)) (show (I53 235 16) ≤ B + (wr (k + 1)) from by first | omega | (simp only [wr, wl] at *; omega)) (show (I53 235 12) ≤ B + (wr (k + 1)) from by first | omega | (simp only [wr, wl] at *; omega)) (show (tm - (wr (k + 1))).toNat < m from by omega)
              ·
                exact ⟨rfl, hQ _ hJ (fun k j hk => (hV k j (by omega))) (show (J 235 16) ≤ B + 300000 from by first | omega | (simp only [wr, wl] at *; omega)) (show (J 235 12) ≤ B + 300000 from by first | omega | (simp only [wr, wl] at *; omega))⟩
          ·
            refine ⟨fun (c65 : ((v0 : Int) = 2)) => ?_, fun (c65 : (¬ ((v0 : Int) = 2))) => ?_⟩
            ·
              refine ⟨_, rfl, (by decide), ?_⟩
              refine ⟨_, rfl, (by decide), ?_⟩
              refine ⟨_, rfl, (by decide), ?_⟩
              refine ⟨_, rfl, (by decide), ?_⟩
              have r66 : 0 ≤ (I 235 11) ∧ (I 235 11) ≤ 13 := Rg.f11 hR
              have u67 : (J 235 11) = (I 235 11) := hV _ _ (by omega)
              have a68 : -2147483648 ≤ (I 235 11) ∧ (I 235 11) < 2147483648 := hA.1 _ _
              have r69 : 0 ≤ (J 235 11) ∧ (J 235 11) ≤ 13 := Rg.f11 hJ
              refine ⟨⟨_, rfl, (by decide)⟩, ?_⟩
              have a70 : -2147483648 ≤ (J 235 11) ∧ (J 235 11) < 2147483648 := hA.1 _ _
              refine r_of hF (j := (Int.toNat (304 + 66 * (J 235 11)))) (by omega) (by omega) (by omega) (fun w71 hw72 => ?_)
              have r73 : 0 ≤ (I 236 (Int.toNat (304 + 66 * (J 235 11)))) ∧ (I 236 (Int.toNat (304 + 66 * (J 235 11)))) ≤ 5 := Pn_p0 (p := (Int.toNat (J 235 11))) (by omega) (by omega) (hR.n 236 (Int.toNat (304 + 66 * (J 235 11))) (Or.inl rfl))
              have u74 : (J 236 (Int.toNat (304 + 66 * (J 235 11)))) = (I 236 (Int.toNat (304 + 66 * (J 235 11)))) := hV _ _ (by omega)
              have a75 : -2147483648 ≤ (I 236 (Int.toNat (304 + 66 * (J 235 11)))) ∧ (I 236 (Int.toNat (304 + 66 * (J 235 11)))) < 2147483648 := hA.1 _ _
              have r76 : 0 ≤ (J 236 (Int.toNat (304 + 66 * (J 235 11)))) ∧ (J 236 (Int.toNat (304 + 66 * (J 235 11)))) ≤ 5 := Pn_p0 (p := (Int.toNat (J 235 11))) (by omega) (by omega) (hJ.n 236 (Int.toNat (304 + 66 * (J 235 11))) (Or.inl rfl))
              have hw72 : w71 = (J 236 (Int.toNat (304 + 66 * (J 235 11)))) := hw72
              have a77 : -2147483648 ≤ (J 236 (Int.toNat (304 + 66 * (J 235 11)))) ∧ (J 236 (Int.toNat (304 + 66 * (J 235 11)))) < 2147483648 := hA.1 _ _
              refine ⟨fun (c78 : (¬ (w71 : Int) = 3)) => ?_, fun (c78 : ((w71 : Int) = 3)) => ?_⟩
              ·
                refine ⟨_, rfl, (by decide), ?_⟩
                have n79 : (wr ((J 235 12) + 0)) = (J 235 12) + 0 := wr_id (show -2147483648 ≤ ((J 235 12) + 0 : Int) ∧ ((J 235 12) + 0 : Int) < 2147483648 from by omega)
                have p80 : (0 : Int) ≤ (wr ((J 235 12) + 0)) ∧ ((wr ((J 235 12) + 0)) : Int) ≤ 20000000 := by first | omega | (simp only [wr, wl] at *; omega)
                refine ⟨⟨_, rfl, (by decide)⟩, ?_⟩
                refine r_tick hF (Rg.u (Rg.u hJ (Pr_f rfl)) (Pr_x12 p80)) (show (J 235 16) ≤ 19999999 from by first | omega | (simp only [wr, wl] at *; omega)) (fun I81 hR82 hA83 hW84 q85 => ?_)
                have n86 : (wr (k + 1)) = k + 1 := wr_id (show -2147483648 ≤ (k + 1 : Int) ∧ (k + 1 : Int) < 2147483648 from by omega)
                have r87 : 0 ≤ (I81 235 16) ∧ (I81 235 16) ≤ 20000000 := Rg.f16 hR82
                have a88 : -2147483648 ≤ (I81 235 16) ∧ (I81 235 16) < 2147483648 := hA83.1 _ _
                have u89 : (I81 235 12) = ((uI (uI J 235 17 (wr ((J 235 17) + 1))) 235 12 (wr ((J 235 12) + 0))) 235 12) := hW84 _ _ (by omega)
                have u90 : ((uI (uI J 235 17 (wr ((J 235 17) + 1))) 235 12 (wr ((J 235 12) + 0))) 235 12) = (wr ((J 235 12) + 0)) := rfl
                have r91 : 0 ≤ (I81 235 12) ∧ (I81 235 12) ≤ 20000000 := Rg.f12 hR82
                have a92 : -2147483648 ≤ (I81 235 12) ∧ (I81 235 12) < 2147483648 := hA83.1 _ _
                exact ih tm (wr (k + 1)) I81 hR82 (fun k j hk => ((hW84 k j (by omega))).trans (((uI_o (by omega))).trans (((uI_o (by omega))).trans ((hV k j (by omega)))))) (show (tm : Int) ≤ 300000 from by first | omega | (simp only [wr, wl] at *; omega)) (show (0 : Int) ≤ (wr (k + 1)) from by first | omega | (simp only [wr, wl] at *; omega)) (show ((wr (k + 1)) : Int) ≤ 300000 from by first | omega | (simp only [wr, wl] at *; omega)) (show (I81 235 16) ≤ B + (wr (k + 1)) from by first | omega | (simp only [wr, wl] at *; omega)) (show (I81 235 12) ≤ B + (wr (k + 1)) from by first | omega | (simp only [wr, wl] at *; omega)) (show (tm - (wr (k + 1))).toNat < m from by omega)
              ·
                refine ⟨_, rfl, (by decide), ?_⟩
                refine ⟨(by decide), ?_⟩
                have a93 : -2147483648 ≤ (J 235 17) ∧ (J 235 17) < 2147483648 := hA.1 _ _
                refine ⟨fun (c94 : (¬ ((Int.tmod (wr ((J 235 17) + 1)) 5) : Int) = 0)) => ?_, fun (c94 : (((Int.tmod (wr ((J 235 17) + 1)) 5) : Int) = 0)) => ?_⟩
                ·
                  refine ⟨_, rfl, (by decide), ?_⟩
                  have n95 : (wr ((J 235 12) + 0)) = (J 235 12) + 0 := wr_id (show -2147483648 ≤ ((J 235 12) + 0 : Int) ∧ ((J 235 12) + 0 : Int) < 2147483648 from by omega)
                  have p96 : (0 : Int) ≤ (wr ((J 235 12) + 0)) ∧ ((wr ((J 235 12) + 0)) : Int) ≤ 20000000 := by first | omega | (simp only [wr, wl] at *; omega)
                  refine ⟨⟨_, rfl, (by decide)⟩, ?_⟩
                  refine r_tick hF (Rg.u (Rg.u hJ (Pr_f rfl)) (Pr_x12 p96)) (show (J 235 16) ≤ 19999999 from by first | omega | (simp only [wr, wl] at *; omega)) (fun I97 hR98 hA99 hW100 q101 => ?_)
                  have n102 : (wr (k + 1)) = k + 1 := wr_id (show -2147483648 ≤ (k + 1 : Int) ∧ (k + 1 : Int) < 2147483648 from by omega)
                  have r103 : 0 ≤ (I97 235 16) ∧ (I97 235 16) ≤ 20000000 := Rg.f16 hR98
                  have a104 : -2147483648 ≤ (I97 235 16) ∧ (I97 235 16) < 2147483648 := hA99.1 _ _
                  have u105 : (I97 235 12) = ((uI (uI J 235 17 (wr ((J 235 17) + 1))) 235 12 (wr ((J 235 12) + 0))) 235 12) := hW100 _ _ (by omega)
                  have u106 : ((uI (uI J 235 17 (wr ((J 235 17) + 1))) 235 12 (wr ((J 235 12) + 0))) 235 12) = (wr ((J 235 12) + 0)) := rfl
                  have r107 : 0 ≤ (I97 235 12) ∧ (I97 235 12) ≤ 20000000 := Rg.f12 hR98
                  have a108 : -2147483648 ≤ (I97 235 12) ∧ (I97 235 12) < 2147483648 := hA99.1 _ _
                  exact ih tm (wr (k + 1)) I97 hR98 (fun k j hk => ((hW100 k j (by omega))).trans (((uI_o (by omega))).trans (((uI_o (by omega))).trans ((hV k j (by omega)))))) (show (tm : Int) ≤ 300000 from by first | omega | (simp only [wr, wl] at *; omega)) (show (0 : Int) ≤ (wr (k + 1)) from by first | omega | (simp only [wr, wl] at *; omega)) (show ((wr (k + 1)) : Int) ≤ 300000 from by first | omega | (simp only [wr, wl] at *; omega)) (show (I97 235 16) ≤ B + (wr (k + 1)) from by first | omega | (simp only [wr, wl] at *; omega)) (show (I97 235 12) ≤ B + (wr (k + 1)) from by first | omega | (simp only [wr, wl] at *; omega)) (show (tm - (wr (k + 1))).toNat < m from by omega)
                ·
                  refine ⟨_, rfl, (by decide), ?_⟩
                  have n109 : (wr ((J 235 12) + 1)) = (J 235 12) + 1 := wr_id (show -2147483648 ≤ ((J 235 12) + 1 : Int) ∧ ((J 235 12) + 1 : Int) < 2147483648 from by omega)
                  have p110 : (0 : Int) ≤ (wr ((J 235 12) + 1)) ∧ ((wr ((J 235 12) + 1)) : Int) ≤ 20000000 := by first | omega | (simp only [wr, wl] at *; omega)
                  refine ⟨⟨_, rfl, (by decide)⟩, ?_⟩
                  refine r_tick hF (Rg.u (Rg.u hJ (Pr_f rfl)) (Pr_x12 p110)) (show (J 235 16) ≤ 19999999 from by first | omega | (simp only [wr, wl] at *; omega)) (fun I111 hR112 hA113 hW114 q115 => ?_)
                  have n116 : (wr (k + 1)) = k + 1 := wr_id (show -2147483648 ≤ (k + 1 : Int) ∧ (k + 1 : Int) < 2147483648 from by omega)
                  have r117 : 0 ≤ (I111 235 16) ∧ (I111 235 16) ≤ 20000000 := Rg.f16 hR112
                  have a118 : -2147483648 ≤ (I111 235 16) ∧ (I111 235 16) < 2147483648 := hA113.1 _ _
                  have u119 : (I111 235 12) = ((uI (uI J 235 17 (wr ((J 235 17) + 1))) 235 12 (wr ((J 235 12) + 1))) 235 12) := hW114 _ _ (by omega)
                  have u120 : ((uI (uI J 235 17 (wr ((J 235 17) + 1))) 235 12 (wr ((J 235 12) + 1))) 235 12) = (wr ((J 235 12) + 1)) := rfl
                  have r121 : 0 ≤ (I111 235 12) ∧ (I111 235 12) ≤ 20000000 := Rg.f12 hR112
                  have a122 : -2147483648 ≤ (I111 235 12) ∧ (I111 235 12) < 2147483648 := hA113.1 _ _
                  exact ih tm (wr (k + 1)) I111 hR112 (fun k j hk => ((hW114 k j (by omega))).trans (((uI_o (by omega))).trans (((uI_o (by omega))).trans ((hV k j (by omega)))))) (show (tm : Int) ≤ 300000 from by first | omega | (simp only [wr, wl] at *; omega)) (show (0 : Int) ≤ (wr (k + 1)) from by first | omega | (simp only [wr, wl] at *; omega)) (show ((wr (k + 1)) : Int) ≤ 300000 from by first | omega | (simp only [wr, wl] at *; omega)) (show (I111 235 16) ≤ B + (wr (k + 1)) from by first | omega | (simp only [wr, wl] at *; omega)) (show (I111 235 12) ≤ B + (wr (k + 1)) from by first | omega | (simp only [wr, wl] at *; omega)) (show (tm - (wr (k + 1))).toNat < m from by omega)
            ·
              refine ⟨fun (c123 : ((v0 : Int) = 3)) => ?_, fun (c123 : (¬ ((v0 : Int) = 3))) => ?_⟩
              ·
                refine ⟨_, rfl, (by decide), ?_⟩
                have n124 : (wr ((J 235 12) - 1)) = (J 235 12) - 1 := wr_id (show -2147483648 ≤ ((J 235 12) - 1 : Int) ∧ ((J 235 12) - 1 : Int) < 2147483648 from by omega)
                refine j_max (fun w125 h126 h127 h128 => ?_)
                refine ⟨_, rfl, (by decide), ?_⟩
                have p129 : (0 : Int) ≤ w125 ∧ (w125 : Int) ≤ 20000000 := by first | omega | (simp only [wr, wl] at *; omega)
                refine ⟨⟨_, rfl, (by decide)⟩, ?_⟩
                refine r_tick hF (Rg.u hJ (Pr_x12 p129)) (show (J 235 16) ≤ 19999999 from by first | omega | (simp only [wr, wl] at *; omega)) (fun I130 hR131 hA132 hW133 q134 => ?_)
                have n135 : (wr (k + 1)) = k + 1 := wr_id (show -2147483648 ≤ (k + 1 : Int) ∧ (k + 1 : Int) < 2147483648 from by omega)
                have r136 : 0 ≤ (I130 235 16) ∧ (I130 235 16) ≤ 20000000 := Rg.f16 hR131
                have a137 : -2147483648 ≤ (I130 235 16) ∧ (I130 235 16) < 2147483648 := hA132.1 _ _
                have u138 : (I130 235 12) = ((uI J 235 12 w125) 235 12) := hW133 _ _ (by omega)
                have u139 : ((uI J 235 12 w125) 235 12) = w125 := rfl
                have r140 : 0 ≤ (I130 235 12) ∧ (I130 235 12) ≤ 20000000 := Rg.f12 hR131
                have a141 : -2147483648 ≤ (I130 235 12) ∧ (I130 235 12) < 2147483648 := hA132.1 _ _
                exact ih tm (wr (k + 1)) I130 hR131 (fun k j hk => ((hW133 k j (by omega))).trans (((uI_o (by omega))).trans ((hV k j (by omega))))) (show (tm : Int) ≤ 300000 from by first | omega | (simp only [wr, wl] at *; omega)) (show (0 : Int) ≤ (wr (k + 1)) from by first | omega | (simp only [wr, wl] at *; omega)) (show ((wr (k + 1)) : Int) ≤ 300000 from by first | omega | (simp only [wr, wl] at *; omega)) (show (I130 235 16) ≤ B + (wr (k + 1)) from by first | omega | (simp only [wr, wl] at *; omega)) (show (I130 235 12) ≤ B + (wr (k + 1)) from by first | omega | (simp only [wr, wl] at *; omega)) (show (tm - (wr (k + 1))).toNat < m from by omega)
              ·
                refine ⟨fun (c142 : ((v0 : Int) = 4)) => ?_, fun (c142 : (¬ ((v0 : Int) = 4))) => ?_⟩
                ·
                  refine ⟨⟨_, rfl, (by decide)⟩, ?_⟩
                  refine r_take hF hJ (fun I143 hR144 hA145 hW146 => ?_)
                  refine ⟨⟨_, rfl, (by decide)⟩, ?_⟩
                  have u147 : (I143 235 16) = (J 235 16) := hW146 _ _ (by omega)
                  have r148 : 0 ≤ (I143 235 16) ∧ (I143 235 16) ≤ 20000000 := Rg.f16 hR144
                  have a149 : -2147483648 ≤ (I143 235 16) ∧ (I143 235 16) < 2147483648 := hA145.1 _ _
                  refine r_tick hF hR144 (show (I143 235 16) ≤ 19999999 from by first | omega | (simp only [wr, wl] at *; omega)) (fun I150 hR151 hA152 hW153 q154 => ?_)
                  have n155 : (wr (k + 1)) = k + 1 := wr_id (show -2147483648 ≤ (k + 1 : Int) ∧ (k + 1 : Int) < 2147483648 from by omega)
                  have r156 : 0 ≤ (I150 235 16) ∧ (I150 235 16) ≤ 20000000 := Rg.f16 hR151
                  have a157 : -2147483648 ≤ (I150 235 16) ∧ (I150 235 16) < 2147483648 := hA152.1 _ _
                  have u158 : (I143 235 12) = (J 235 12) := hW146 _ _ (by omega)
                  have r159 : 0 ≤ (I143 235 12) ∧ (I143 235 12) ≤ 20000000 := Rg.f12 hR144
                  have u160 : (I150 235 12) = (I143 235 12) := hW153 _ _ (by omega)
                  have a161 : -2147483648 ≤ (I143 235 12) ∧ (I143 235 12) < 2147483648 := hA145.1 _ _
                  have r162 : 0 ≤ (I150 235 12) ∧ (I150 235 12) ≤ 20000000 := Rg.f12 hR151
                  have a163 : -2147483648 ≤ (I150 235 12) ∧ (I150 235 12) < 2147483648 := hA152.1 _ _
                  exact ih tm (wr (k + 1)) I150 hR151 (fun k j hk => ((hW153 k j (by omega))).trans (((hW146 k j (by omega))).trans ((hV k j (by omega))))) (show (tm : Int) ≤ 300000 from by first | omega | (simp only [wr, wl] at *; omega)) (show (0 : Int) ≤ (wr (k + 1)) from by first | omega | (simp only [wr, wl] at *; omega)) (show ((wr (k + 1)) : Int) ≤ 300000 from by first | omega | (simp only [wr, wl] at *; omega)) (show (I150 235 16) ≤ B + (wr (k + 1)) from by first | omega | (simp only [wr, wl] at *; omega)) (show (I150 235 12) ≤ B + (wr (k + 1)) from by first | omega | (simp only [wr, wl] at *; omega)) (show (tm - (wr (k + 1))).toNat < m from by omega)
                ·
                  refine ⟨_, rfl, (by decide), ?_⟩
                  refine ⟨fun (c164 : (((J 235 12) : Int) < v1)) => ?_, fun (c164 : (¬ (((J 235 12) : Int) < v1))) => ?_⟩
                  ·
                    refine ⟨_, rfl, (by decide), ?_⟩
                    refine ⟨_, rfl, (by decide), ?_⟩
                    have n165 : (wr ((J 235 12) + 1)) = (J 235 12) + 1 := wr_id (show -2147483648 ≤ ((J 235 12) + 1 : Int) ∧ ((J 235 12) + 1 : Int) < 2147483648 from by omega)
                    have p166 : (0 : Int) ≤ (wr ((J 235 12) + 1)) ∧ ((wr ((J 235 12) + 1)) : Int) ≤ 20000000 := by first | omega | (simp only [wr, wl] at *; omega)
                    refine ⟨⟨_, rfl, (by decide)⟩, ?_⟩
                    refine r_tick hF (Rg.u hJ (Pr_x12 p166)) (show (J 235 16) ≤ 19999999 from by first | omega | (simp only [wr, wl] at *; omega)) (fun I167 hR168 hA169 hW170 q171 => ?_)
                    have n172 : (wr (k + 1)) = k + 1 := wr_id (show -2147483648 ≤ (k + 1 : Int) ∧ (k + 1 : Int) < 2147483648 from by omega)
                    have r173 : 0 ≤ (I167 235 16) ∧ (I167 235 16) ≤ 20000000 := Rg.f16 hR168
                    have a174 : -2147483648 ≤ (I167 235 16) ∧ (I167 235 16) < 2147483648 := hA169.1 _ _
                    have u175 : (I167 235 12) = ((uI J 235 12 (wr ((J 235 12) + 1))) 235 12) := hW170 _ _ (by omega)
                    have u176 : ((uI J 235 12 (wr ((J 235 12) + 1))) 235 12) = (wr ((J 235 12) + 1)) := rfl
                    have r177 : 0 ≤ (I167 235 12) ∧ (I167 235 12) ≤ 20000000 := Rg.f12 hR168
                    have a178 : -2147483648 ≤ (I167 235 12) ∧ (I167 235 12) < 2147483648 := hA169.1 _ _
                    exact ih tm (wr (k + 1)) I167 hR168 (fun k j hk => ((hW170 k j (by omega))).trans (((uI_o (by omega))).trans ((hV k j (by omega))))) (show (tm : Int) ≤ 300000 from by first | omega | (simp only [wr, wl] at *; omega)) (show (0 : Int) ≤ (wr (k + 1)) from by first | omega | (simp only [wr, wl] at *; omega)) (show ((wr (k + 1)) : Int) ≤ 300000 from by first | omega | (simp only [wr, wl] at *; omega)) (show (I167 235 16) ≤ B + (wr (k + 1)) from by first | omega | (simp only [wr, wl] at *; omega)) (show (I167 235 12) ≤ B + (wr (k + 1)) from by first | omega | (simp only [wr, wl] at *; omega)) (show (tm - (wr (k + 1))).toNat < m from by omega)
                  ·
                    exact ⟨rfl, hQ _ hJ (fun k j hk => (hV k j (by omega))) (show (J 235 16) ≤ B + 300000 from by first | omega | (simp only [wr, wl] at *; omega)) (show (J 235 12) ≤ B + 300000 from by first | omega | (simp only [wr, wl] at *; omega))⟩
      ·
        refine ⟨_, rfl, (by decide), ?_⟩
        have a179 : -2147483648 ≤ (J 235 15) ∧ (J 235 15) < 2147483648 := hA.1 _ _
        refine ⟨fun (c180 : (¬ ((J 235 15) : Int) = 0)) => ?_, fun (c180 : (((J 235 15) : Int) = 0)) => ?_⟩
        ·
          refine ⟨rfl, (by decide), ?_⟩
          refine ⟨fun _ => ?_, fun c => absurd (show ((0 : Int) = 0) from by decide) c⟩
          exact ⟨rfl, hQ _ hJ (fun k j hk => (hV k j (by omega))) (show (J 235 16) ≤ B + 300000 from by first | omega | (simp only [wr, wl] at *; omega)) (show (J 235 12) ≤ B + 300000 from by first | omega | (simp only [wr, wl] at *; omega))⟩
        ·
          refine ⟨rfl, (by decide), ?_⟩
          refine ⟨fun c => absurd c (show (¬ ((1 : Int) = 0)) from by decide), fun _ => ?_⟩
          refine ⟨fun (c181 : ((v0 : Int) = 0)) => ?_, fun (c181 : (¬ ((v0 : Int) = 0))) => ?_⟩
          ·
            refine ⟨_, rfl, (by decide), ?_⟩
            refine ⟨_, rfl, (by decide), ?_⟩
            have n182 : (wr ((J 235 12) + 1)) = (J 235 12) + 1 := wr_id (show -2147483648 ≤ ((J 235 12) + 1 : Int) ∧ ((J 235 12) + 1 : Int) < 2147483648 from by omega)
            have p183 : (0 : Int) ≤ (wr ((J 235 12) + 1)) ∧ ((wr ((J 235 12) + 1)) : Int) ≤ 20000000 := by first | omega | (simp only [wr, wl] at *; omega)
            refine ⟨⟨_, rfl, (by decide)⟩, ?_⟩
            refine r_tick hF (Rg.u hJ (Pr_x12 p183)) (show (J 235 16) ≤ 19999999 from by first | omega | (simp only [wr, wl] at *; omega)) (fun I184 hR185 hA186 hW187 q188 => ?_)
            have n189 : (wr (k + 1)) = k + 1 := wr_id (show -2147483648 ≤ (k + 1 : Int) ∧ (k + 1 : Int) < 2147483648 from by omega)
            have r190 : 0 ≤ (I184 235 16) ∧ (I184 235 16) ≤ 20000000 := Rg.f16 hR185
            have a191 : -2147483648 ≤ (I184 235 16) ∧ (I184 235 16) < 2147483648 := hA186.1 _ _
            have u192 : (I184 235 12) = ((uI J 235 12 (wr ((J 235 12) + 1))) 235 12) := hW187 _ _ (by omega)
            have u193 : ((uI J 235 12 (wr ((J 235 12) + 1))) 235 12) = (wr ((J 235 12) + 1)) := rfl
            have r194 : 0 ≤ (I184 235 12) ∧ (I184 235 12) ≤ 20000000 := Rg.f12 hR185
            have a195 : -2147483648 ≤ (I184 235 12) ∧ (I184 235 12) < 2147483648 := hA186.1 _ _
            exact ih tm (wr (k + 1)) I184 hR185 (fun k j hk => ((hW187 k j (by omega))).trans (((uI_o (by omega))).trans ((hV k j (by omega))))) (show (tm : Int) ≤ 300000 from by first | omega | (simp only [wr, wl] at *; omega)) (show (0 : Int) ≤ (wr (k + 1)) from by first | omega | (simp only [wr, wl] at *; omega)) (show ((wr (k + 1)) : Int) ≤ 300000 from by first | omega | (simp only [wr, wl] at *; omega)) (show (I184 235 16) ≤ B + (wr (k + 1)) from by first | omega | (simp only [wr, wl] at *; omega)) (show (I184 235 12) ≤ B + (wr (k + 1)) from by first | omega | (simp only [wr, wl] at *; omega)) (show (tm - (wr (k + 1))).toNat < m from by omega)
          ·
            refine ⟨fun (c196 : ((v0 : Int) = 1)) => ?_, fun (c196 : (¬ ((v0 : Int) = 1))) => ?_⟩
            ·
              refine ⟨⟨_, rfl, (by decide)⟩, ?_⟩
              refine Call_wp (lv := [some (vr 235)]) (by decide) ckX12_loadNow [] rfl rfl ?_
              refine ⟨_, rfl, (by decide), ?_⟩
              have a197 : -2147483648 ≤ (J 235 13) ∧ (J 235 13) < 2147483648 := hA.1 _ _
              refine ⟨fun (c198 : (((J 235 13) : Int) = 0)) => ?_, fun (c198 : (¬ (((J 235 13) : Int) = 0))) => ?_⟩
              ·
                refine ⟨_, rfl, (by decide), ?_⟩
                have r199 : 0 ≤ (I 235 11) ∧ (I 235 11) ≤ 13 := Rg.f11 hR
                have u200 : (J 235 11) = (I 235 11) := hV _ _ (by omega)
                have a201 : -2147483648 ≤ (I 235 11) ∧ (I 235 11) < 2147483648 := hA.1 _ _
                have r202 : 0 ≤ (J 235 11) ∧ (J 235 11) ≤ 13 := Rg.f11 hJ
                refine ⟨_, rfl, (by decide), ?_⟩
                refine ⟨⟨_, rfl, (by decide)⟩, ?_⟩
                have a203 : -2147483648 ≤ (J 235 11) ∧ (J 235 11) < 2147483648 := hA.1 _ _
                refine r_answered hF hJ (by omega) (by omega) (fun v204 hr205 => ?_)
                have hr205 : -2147483648 ≤ v204 ∧ v204 < 2147483648 := hr205
                refine ⟨rfl, ?_⟩
                refine ⟨fun (c206 : ((v204 : Int) < v1)) => ?_, fun (c206 : (¬ ((v204 : Int) < v1))) => ?_⟩
                ·
                  refine ⟨_, rfl, (by decide), ?_⟩
                  refine ⟨_, rfl, (by decide), ?_⟩
                  have n207 : (wr ((J 235 12) + 1)) = (J 235 12) + 1 := wr_id (show -2147483648 ≤ ((J 235 12) + 1 : Int) ∧ ((J 235 12) + 1 : Int) < 2147483648 from by omega)
                  have p208 : (0 : Int) ≤ (wr ((J 235 12) + 1)) ∧ ((wr ((J 235 12) + 1)) : Int) ≤ 20000000 := by first | omega | (simp only [wr, wl] at *; omega)
                  refine ⟨⟨_, rfl, (by decide)⟩, ?_⟩
                  refine r_tick hF (Rg.u hJ (Pr_x12 p208)) (show (J 235 16) ≤ 19999999 from by first | omega | (simp only [wr, wl] at *; omega)) (fun I209 hR210 hA211 hW212 q213 => ?_)
                  have n214 : (wr (k + 1)) = k + 1 := wr_id (show -2147483648 ≤ (k + 1 : Int) ∧ (k + 1 : Int) < 2147483648 from by omega)
                  have r215 : 0 ≤ (I209 235 16) ∧ (I209 235 16) ≤ 20000000 := Rg.f16 hR210
                  have a216 : -2147483648 ≤ (I209 235 16) ∧ (I209 235 16) < 2147483648 := hA211.1 _ _
                  have u217 : (I209 235 12) = ((uI J 235 12 (wr ((J 235 12) + 1))) 235 12) := hW212 _ _ (by omega)
                  have u218 : ((uI J 235 12 (wr ((J 235 12) + 1))) 235 12) = (wr ((J 235 12) + 1)) := rfl
                  have r219 : 0 ≤ (I209 235 12) ∧ (I209 235 12) ≤ 20000000 := Rg.f12 hR210
                  have a220 : -2147483648 ≤ (I209 235 12) ∧ (I209 235 12) < 2147483648 := hA211.1 _ _
                  exact ih tm (wr (k + 1)) I209 hR210 (fun k j hk => ((hW212 k j (by omega))).trans (((uI_o (by omega))).trans ((hV k j (by omega))))) (show (tm : Int) ≤ 300000 from by first | omega | (simp only [wr, wl] at *; omega)) (show (0 : Int) ≤ (wr (k + 1)) from by first | omega | (simp only [wr, wl] at *; omega)) (show ((wr (k + 1)) : Int) ≤ 300000 from by first | omega | (simp only [wr, wl] at *; omega)) (show (I209 235 16) ≤ B + (wr (k + 1)) from by first | omega | (simp only [wr, wl] at *; omega)) (show (I209 235 12) ≤ B + (wr (k + 1)) from by first | omega | (simp only [wr, wl] at *; omega)) (show (tm - (wr (k + 1))).toNat < m from by omega)
                ·
                  exact ⟨rfl, hQ _ hJ (fun k j hk => (hV k j (by omega))) (show (J 235 16) ≤ B + 300000 from by first | omega | (simp only [wr, wl] at *; omega)) (show (J 235 12) ≤ B + 300000 from by first | omega | (simp only [wr, wl] at *; omega))⟩
              ·
                refine ⟨rfl, ?_⟩
                refine ⟨fun (c221 : ((0 : Int) < v1)) => ?_, fun (c221 : (¬ ((0 : Int) < v1))) => ?_⟩
                ·
                  refine ⟨_, rfl, (by decide), ?_⟩
                  refine ⟨_, rfl, (by decide), ?_⟩
                  have n222 : (wr ((J 235 12) + 1)) = (J 235 12) + 1 := wr_id (show -2147483648 ≤ ((J 235 12) + 1 : Int) ∧ ((J 235 12) + 1 : Int) < 2147483648 from by omega)
                  have p223 : (0 : Int) ≤ (wr ((J 235 12) + 1)) ∧ ((wr ((J 235 12) + 1)) : Int) ≤ 20000000 := by first | omega | (simp only [wr, wl] at *; omega)
                  refine ⟨⟨_, rfl, (by decide)⟩, ?_⟩
                  refine r_tick hF (Rg.u hJ (Pr_x12 p223)) (show (J 235 16) ≤ 19999999 from by first | omega | (simp only [wr, wl] at *; omega)) (fun I224 hR225 hA226 hW227 q228 => ?_)
                  have n229 : (wr (k + 1)) = k + 1 := wr_id (show -2147483648 ≤ (k + 1 : Int) ∧ (k + 1 : Int) < 2147483648 from by omega)
                  have r230 : 0 ≤ (I224 235 16) ∧ (I224 235 16) ≤ 20000000 := Rg.f16 hR225
                  have a231 : -2147483648 ≤ (I224 235 16) ∧ (I224 235 16) < 2147483648 := hA226.1 _ _
                  have u232 : (I224 235 12) = ((uI J 235 12 (wr ((J 235 12) + 1))) 235 12) := hW227 _ _ (by omega)
                  have u233 : ((uI J 235 12 (wr ((J 235 12) + 1))) 235 12) = (wr ((J 235 12) + 1)) := rfl
                  have r234 : 0 ≤ (I224 235 12) ∧ (I224 235 12) ≤ 20000000 := Rg.f12 hR225
                  have a235 : -2147483648 ≤ (I224 235 12) ∧ (I224 235 12) < 2147483648 := hA226.1 _ _
                  exact ih tm (wr (k + 1)) I224 hR225 (fun k j hk => ((hW227 k j (by omega))).trans (((uI_o (by omega))).trans ((hV k j (by omega))))) (show (tm : Int) ≤ 300000 from by first | omega | (simp only [wr, wl] at *; omega)) (show (0 : Int) ≤ (wr (k + 1)) from by first | omega | (simp only [wr, wl] at *; omega)) (show ((wr (k + 1)) : Int) ≤ 300000 from by first | omega | (simp only [wr, wl] at *; omega)) (show (I224 235 16) ≤ B + (wr (k + 1)) from by first | omega | (simp only [wr, wl] at *; omega)) (show (I224 235 12) ≤ B + (wr (k + 1)) from by first | omega | (simp only [wr, wl] at *; omega)) (show (tm - (wr (k + 1))).toNat < m from by omega)
                ·
                  exact ⟨rfl, hQ _ hJ (fun k j hk => (hV k j (by omega))) (show (J 235 16) ≤ B + 300000 from by first | omega | (simp only [wr, wl] at *; omega)) (show (J 235 12) ≤ B + 300000 from by first | omega | (simp only [wr, wl] at *; omega))⟩
            ·
              refine ⟨fun (c236 : ((v0 : Int) = 2)) => ?_, fun (c236 : (¬ ((v0 : Int) = 2))) => ?_⟩
              ·
                refine ⟨_, rfl, (by decide), ?_⟩
                refine ⟨_, rfl, (by decide), ?_⟩
                refine ⟨_, rfl, (by decide), ?_⟩
                refine ⟨_, rfl, (by decide), ?_⟩
                have r237 : 0 ≤ (I 235 11) ∧ (I 235 11) ≤ 13 := Rg.f11 hR
                have u238 : (J 235 11) = (I 235 11) := hV _ _ (by omega)
                have a239 : -2147483648 ≤ (I 235 11) ∧ (I 235 11) < 2147483648 := hA.1 _ _
                have r240 : 0 ≤ (J 235 11) ∧ (J 235 11) ≤ 13 := Rg.f11 hJ
                refine ⟨⟨_, rfl, (by decide)⟩, ?_⟩
                have a241 : -2147483648 ≤ (J 235 11) ∧ (J 235 11) < 2147483648 := hA.1 _ _
                refine r_of hF (j := (Int.toNat (304 + 66 * (J 235 11)))) (by omega) (by omega) (by omega) (fun w242 hw243 => ?_)
                have r244 : 0 ≤ (I 236 (Int.toNat (304 + 66 * (J 235 11)))) ∧ (I 236 (Int.toNat (304 + 66 * (J 235 11)))) ≤ 5 := Pn_p0 (p := (Int.toNat (J 235 11))) (by omega) (by omega) (hR.n 236 (Int.toNat (304 + 66 * (J 235 11))) (Or.inl rfl))
                have u245 : (J 236 (Int.toNat (304 + 66 * (J 235 11)))) = (I 236 (Int.toNat (304 + 66 * (J 235 11)))) := hV _ _ (by omega)
                have a246 : -2147483648 ≤ (I 236 (Int.toNat (304 + 66 * (J 235 11)))) ∧ (I 236 (Int.toNat (304 + 66 * (J 235 11)))) < 2147483648 := hA.1 _ _
                have r247 : 0 ≤ (J 236 (Int.toNat (304 + 66 * (J 235 11)))) ∧ (J 236 (Int.toNat (304 + 66 * (J 235 11)))) ≤ 5 := Pn_p0 (p := (Int.toNat (J 235 11))) (by omega) (by omega) (hJ.n 236 (Int.toNat (304 + 66 * (J 235 11))) (Or.inl rfl))
                have hw243 : w242 = (J 236 (Int.toNat (304 + 66 * (J 235 11)))) := hw243
                have a248 : -2147483648 ≤ (J 236 (Int.toNat (304 + 66 * (J 235 11)))) ∧ (J 236 (Int.toNat (304 + 66 * (J 235 11)))) < 2147483648 := hA.1 _ _
                refine ⟨fun (c249 : (¬ (w242 : Int) = 3)) => ?_, fun (c249 : ((w242 : Int) = 3)) => ?_⟩
                ·
                  refine ⟨_, rfl, (by decide), ?_⟩
                  have n250 : (wr ((J 235 12) + 0)) = (J 235 12) + 0 := wr_id (show -2147483648 ≤ ((J 235 12) + 0 : Int) ∧ ((J 235 12) + 0 : Int) < 2147483648 from by omega)
                  have p251 : (0 : Int) ≤ (wr ((J 235 12) + 0)) ∧ ((wr ((J 235 12) + 0)) : Int) ≤ 20000000 := by first | omega | (simp only [wr, wl] at *; omega)
                  refine ⟨⟨_, rfl, (by decide)⟩, ?_⟩
                  refine r_tick hF (Rg.u (Rg.u hJ (Pr_f rfl)) (Pr_x12 p251)) (show (J 235 16) ≤ 19999999 from by first | omega | (simp only [wr, wl] at *; omega)) (fun I252 hR253 hA254 hW255 q256 => ?_)
                  have n257 : (wr (k + 1)) = k + 1 := wr_id (show -2147483648 ≤ (k + 1 : Int) ∧ (k + 1 : Int) < 2147483648 from by omega)
                  have r258 : 0 ≤ (I252 235 16) ∧ (I252 235 16) ≤ 20000000 := Rg.f16 hR253
                  have a259 : -2147483648 ≤ (I252 235 16) ∧ (I252 235 16) < 2147483648 := hA254.1 _ _
                  have u260 : (I252 235 12) = ((uI (uI J 235 17 (wr ((J 235 17) + 1))) 235 12 (wr ((J 235 12) + 0))) 235 12) := hW255 _ _ (by omega)
                  have u261 : ((uI (uI J 235 17 (wr ((J 235 17) + 1))) 235 12 (wr ((J 235 12) + 0))) 235 12) = (wr ((J 235 12) + 0)) := rfl
                  have r262 : 0 ≤ (I252 235 12) ∧ (I252 235 12) ≤ 20000000 := Rg.f12 hR253
                  have a263 : -2147483648 ≤ (I252 235 12) ∧ (I252 235 12) < 2147483648 := hA254.1 _ _
                  exact ih tm (wr (k + 1)) I252 hR253 (fun k j hk => ((hW255 k j (by omega))).trans (((uI_o (by omega))).trans (((uI_o (by omega))).trans ((hV k j (by omega)))))) (show (tm : Int) ≤ 300000 from by first | omega | (simp only [wr, wl] at *; omega)) (show (0 : Int) ≤ (wr (k + 1)) from by first | omega | (simp only [wr, wl] at *; omega)) (show ((wr (k + 1)) : Int) ≤ 300000 from by first | omega | (simp only [wr, wl] at *; omega)) (show (I252 235 16) ≤ B + (wr (k + 1)) from by first | omega | (simp only [wr, wl] at *; omega)) (show (I252 235 12) ≤ B + (wr (k + 1)) from by first | omega | (simp only [wr, wl] at *; omega)) (show (tm - (wr (k + 1))).toNat < m from by omega)
                ·
                  refine ⟨_, rfl, (by decide), ?_⟩
                  refine ⟨(by decide), ?_⟩
                  have a264 : -2147483648 ≤ (J 235 17) ∧ (J 235 17) < 2147483648 := hA.1 _ _
                  refine ⟨fun (c265 : (¬ ((Int.tmod (wr ((J 235 17) + 1)) 5) : Int) = 0)) => ?_, fun (c265 : (((Int.tmod (wr ((J 235 17) + 1)) 5) : Int) = 0)) => ?_⟩
                  ·
                    refine ⟨_, rfl, (by decide), ?_⟩
                    have n266 : (wr ((J 235 12) + 0)) = (J 235 12) + 0 := wr_id (show -2147483648 ≤ ((J 235 12) + 0 : Int) ∧ ((J 235 12) + 0 : Int) < 2147483648 from by omega)
                    have p267 : (0 : Int) ≤ (wr ((J 235 12) + 0)) ∧ ((wr ((J 235 12) + 0)) : Int) ≤ 20000000 := by first | omega | (simp only [wr, wl] at *; omega)
                    refine ⟨⟨_, rfl, (by decide)⟩, ?_⟩
                    refine r_tick hF (Rg.u (Rg.u hJ (Pr_f rfl)) (Pr_x12 p267)) (show (J 235 16) ≤ 19999999 from by first | omega | (simp only [wr, wl] at *; omega)) (fun I268 hR269 hA270 hW271 q272 => ?_)
                    have n273 : (wr (k + 1)) = k + 1 := wr_id (show -2147483648 ≤ (k + 1 : Int) ∧ (k + 1 : Int) < 2147483648 from by omega)
                    have r274 : 0 ≤ (I268 235 16) ∧ (I268 235 16) ≤ 20000000 := Rg.f16 hR269
                    have a275 : -2147483648 ≤ (I268 235 16) ∧ (I268 235 16) < 2147483648 := hA270.1 _ _
                    have u276 : (I268 235 12) = ((uI (uI J 235 17 (wr ((J 235 17) + 1))) 235 12 (wr ((J 235 12) + 0))) 235 12) := hW271 _ _ (by omega)
                    have u277 : ((uI (uI J 235 17 (wr ((J 235 17) + 1))) 235 12 (wr ((J 235 12) + 0))) 235 12) = (wr ((J 235 12) + 0)) := rfl
                    have r278 : 0 ≤ (I268 235 12) ∧ (I268 235 12) ≤ 20000000 := Rg.f12 hR269
                    have a279 : -2147483648 ≤ (I268 235 12) ∧ (I268 235 12) < 2147483648 := hA270.1 _ _
                    exact ih tm (wr (k + 1)) I268 hR269 (fun k j hk => ((hW271 k j (by omega))).trans (((uI_o (by omega))).trans (((uI_o (by omega))).trans ((hV k j (by omega)))))) (show (tm : Int) ≤ 300000 from by first | omega | (simp only [wr, wl] at *; omega)) (show (0 : Int) ≤ (wr (k + 1)) from by first | omega | (simp only [wr, wl] at *; omega)) (show ((wr (k + 1)) : Int) ≤ 300000 from by first | omega | (simp only [wr, wl] at *; omega)) (show (I268 235 16) ≤ B + (wr (k + 1)) from by first | omega | (simp only [wr, wl] at *; omega)) (show (I268 235 12) ≤ B + (wr (k + 1)) from by first | omega | (simp only [wr, wl] at *; omega)) (show (tm - (wr (k + 1))).toNat < m from by omega)
                  ·
                    refine ⟨_, rfl, (by decide), ?_⟩
                    have n280 : (wr ((J 235 12) + 1)) = (J 235 12) + 1 := wr_id (show -2147483648 ≤ ((J 235 12) + 1 : Int) ∧ ((J 235 12) + 1 : Int) < 2147483648 from by omega)
                    have p281 : (0 : Int) ≤ (wr ((J 235 12) + 1)) ∧ ((wr ((J 235 12) + 1)) : Int) ≤ 20000000 := by first | omega | (simp only [wr, wl] at *; omega)
                    refine ⟨⟨_, rfl, (by decide)⟩, ?_⟩
                    refine r_tick hF (Rg.u (Rg.u hJ (Pr_f rfl)) (Pr_x12 p281)) (show (J 235 16) ≤ 19999999 from by first | omega | (simp only [wr, wl] at *; omega)) (fun I282 hR283 hA284 hW285 q286 => ?_)
                    have n287 : (wr (k + 1)) = k + 1 := wr_id (show -2147483648 ≤ (k + 1 : Int) ∧ (k + 1 : Int) < 2147483648 from by omega)
                    have r288 : 0 ≤ (I282 235 16) ∧ (I282 235 16) ≤ 20000000 := Rg.f16 hR283
                    have a289 : -2147483648 ≤ (I282 235 16) ∧ (I282 235 16) < 2147483648 := hA284.1 _ _
                    have u290 : (I282 235 12) = ((uI (uI J 235 17 (wr ((J 235 17) + 1))) 235 12 (wr ((J 235 12) + 1))) 235 12) := hW285 _ _ (by omega)
                    have u291 : ((uI (uI J 235 17 (wr ((J 235 17) + 1))) 235 12 (wr ((J 235 12) + 1))) 235 12) = (wr ((J 235 12) + 1)) := rfl
                    have r292 : 0 ≤ (I282 235 12) ∧ (I282 235 12) ≤ 20000000 := Rg.f12 hR283
                    have a293 : -2147483648 ≤ (I282 235 12) ∧ (I282 235 12) < 2147483648 := hA284.1 _ _
                    exact ih tm (wr (k + 1)) I282 hR283 (fun k j hk => ((hW285 k j (by omega))).trans (((uI_o (by omega))).trans (((uI_o (by omega))).trans ((hV k j (by omega)))))) (show (tm : Int) ≤ 300000 from by first | omega | (simp only [wr, wl] at *; omega)) (show (0 : Int) ≤ (wr (k + 1)) from by first | omega | (simp only [wr, wl] at *; omega)) (show ((wr (k + 1)) : Int) ≤ 300000 from by first | omega | (simp only [wr, wl] at *; omega)) (show (I282 235 16) ≤ B + (wr (k + 1)) from by first | omega | (simp only [wr, wl] at *; omega)) (show (I282 235 12) ≤ B + (wr (k + 1)) from by first | omega | (simp only [wr, wl] at *; omega)) (show (tm - (wr (k + 1))).toNat < m from by omega)
              ·
                refine ⟨fun (c294 : ((v0 : Int) = 3)) => ?_, fun (c294 : (¬ ((v0 : Int) = 3))) => ?_⟩
                ·
                  refine ⟨_, rfl, (by decide), ?_⟩
                  have n295 : (wr ((J 235 12) - 1)) = (J 235 12) - 1 := wr_id (show -2147483648 ≤ ((J 235 12) - 1 : Int) ∧ ((J 235 12) - 1 : Int) < 2147483648 from by omega)
                  refine j_max (fun w296 h297 h298 h299 => ?_)
                  refine ⟨_, rfl, (by decide), ?_⟩
                  have p300 : (0 : Int) ≤ w296 ∧ (w296 : Int) ≤ 20000000 := by first | omega | (simp only [wr, wl] at *; omega)
                  refine ⟨⟨_, rfl, (by decide)⟩, ?_⟩
                  refine r_tick hF (Rg.u hJ (Pr_x12 p300)) (show (J 235 16) ≤ 19999999 from by first | omega | (simp only [wr, wl] at *; omega)) (fun I301 hR302 hA303 hW304 q305 => ?_)
                  have n306 : (wr (k + 1)) = k + 1 := wr_id (show -2147483648 ≤ (k + 1 : Int) ∧ (k + 1 : Int) < 2147483648 from by omega)
                  have r307 : 0 ≤ (I301 235 16) ∧ (I301 235 16) ≤ 20000000 := Rg.f16 hR302
                  have a308 : -2147483648 ≤ (I301 235 16) ∧ (I301 235 16) < 2147483648 := hA303.1 _ _
                  have u309 : (I301 235 12) = ((uI J 235 12 w296) 235 12) := hW304 _ _ (by omega)
                  have u310 : ((uI J 235 12 w296) 235 12) = w296 := rfl
                  have r311 : 0 ≤ (I301 235 12) ∧ (I301 235 12) ≤ 20000000 := Rg.f12 hR302
                  have a312 : -2147483648 ≤ (I301 235 12) ∧ (I301 235 12) < 2147483648 := hA303.1 _ _
                  exact ih tm (wr (k + 1)) I301 hR302 (fun k j hk => ((hW304 k j (by omega))).trans (((uI_o (by omega))).trans ((hV k j (by omega))))) (show (tm : Int) ≤ 300000 from by first | omega | (simp only [wr, wl] at *; omega)) (show (0 : Int) ≤ (wr (k + 1)) from by first | omega | (simp only [wr, wl] at *; omega)) (show ((wr (k + 1)) : Int) ≤ 300000 from by first | omega | (simp only [wr, wl] at *; omega)) (show (I301 235 16) ≤ B + (wr (k + 1)) from by first | omega | (simp only [wr, wl] at *; omega)) (show (I301 235 12) ≤ B + (wr (k + 1)) from by first | omega | (simp only [wr, wl] at *; omega)) (show (tm - (wr (k + 1))).toNat < m from by omega)
                ·
                  refine ⟨fun (c313 : ((v0 : Int) = 4)) => ?_, fun (c313 : (¬ ((v0 : Int) = 4))) => ?_⟩
                  ·
                    refine ⟨⟨_, rfl, (by decide)⟩, ?_⟩
                    refine r_take hF hJ (fun I314 hR315 hA316 hW317 => ?_)
                    refine ⟨⟨_, rfl, (by decide)⟩, ?_⟩
                    have u318 : (I314 235 16) = (J 235 16) := hW317 _ _ (by omega)
                    have r319 : 0 ≤ (I314 235 16) ∧ (I314 235 16) ≤ 20000000 := Rg.f16 hR315
                    have a320 : -2147483648 ≤ (I314 235 16) ∧ (I314 235 16) < 2147483648 := hA316.1 _ _
                    refine r_tick hF hR315 (show (I314 235 16) ≤ 19999999 from by first | omega | (simp only [wr, wl] at *; omega)) (fun I321 hR322 hA323 hW324 q325 => ?_)
                    have n326 : (wr (k + 1)) = k + 1 := wr_id (show -2147483648 ≤ (k + 1 : Int) ∧ (k + 1 : Int) < 2147483648 from by omega)
                    have r327 : 0 ≤ (I321 235 16) ∧ (I321 235 16) ≤ 20000000 := Rg.f16 hR322
                    have a328 : -2147483648 ≤ (I321 235 16) ∧ (I321 235 16) < 2147483648 := hA323.1 _ _
                    have u329 : (I314 235 12) = (J 235 12) := hW317 _ _ (by omega)
                    have r330 : 0 ≤ (I314 235 12) ∧ (I314 235 12) ≤ 20000000 := Rg.f12 hR315
                    have u331 : (I321 235 12) = (I314 235 12) := hW324 _ _ (by omega)
                    have a332 : -2147483648 ≤ (I314 235 12) ∧ (I314 235 12) < 2147483648 := hA316.1 _ _
                    have r333 : 0 ≤ (I321 235 12) ∧ (I321 235 12) ≤ 20000000 := Rg.f12 hR322
                    have a334 : -2147483648 ≤ (I321 235 12) ∧ (I321 235 12) < 2147483648 := hA323.1 _ _
                    exact ih tm (wr (k + 1)) I321 hR322 (fun k j hk => ((hW324 k j (by omega))).trans (((hW317 k j (by omega))).trans ((hV k j (by omega))))) (show (tm : Int) ≤ 300000 from by first | omega | (simp only [wr, wl] at *; omega)) (show (0 : Int) ≤ (wr (k + 1)) from by first | omega | (simp only [wr, wl] at *; omega)) (show ((wr (k + 1)) : Int) ≤ 300000 from by first | omega | (simp only [wr, wl] at *; omega)) (show (I321 235 16) ≤ B + (wr (k + 1)) from by first | omega | (simp only [wr, wl] at *; omega)) (show (I321 235 12) ≤ B + (wr (k + 1)) from by first | omega | (simp only [wr, wl] at *; omega)) (show (tm - (wr (k + 1))).toNat < m from by omega)
                  ·
                    refine ⟨_, rfl, (by decide), ?_⟩
                    refine ⟨fun (c335 : (((J 235 12) : Int) < v1)) => ?_, fun (c335 : (¬ (((J 235 12) : Int) < v1))) => ?_⟩
                    ·
                      refine ⟨_, rfl, (by decide), ?_⟩
                      refine ⟨_, rfl, (by decide), ?_⟩
                      have n336 : (wr ((J 235 12) + 1)) = (J 235 12) + 1 := wr_id (show -2147483648 ≤ ((J 235 12) + 1 : Int) ∧ ((J 235 12) + 1 : Int) < 2147483648 from by omega)
                      have p337 : (0 : Int) ≤ (wr ((J 235 12) + 1)) ∧ ((wr ((J 235 12) + 1)) : Int) ≤ 20000000 := by first | omega | (simp only [wr, wl] at *; omega)
                      refine ⟨⟨_, rfl, (by decide)⟩, ?_⟩
                      refine r_tick hF (Rg.u hJ (Pr_x12 p337)) (show (J 235 16) ≤ 19999999 from by first | omega | (simp only [wr, wl] at *; omega)) (fun I338 hR339 hA340 hW341 q342 => ?_)
                      have n343 : (wr (k + 1)) = k + 1 := wr_id (show -2147483648 ≤ (k + 1 : Int) ∧ (k + 1 : Int) < 2147483648 from by omega)
                      have r344 : 0 ≤ (I338 235 16) ∧ (I338 235 16) ≤ 20000000 := Rg.f16 hR339
                      have a345 : -2147483648 ≤ (I338 235 16) ∧ (I338 235 16) < 2147483648 := hA340.1 _ _
                      have u346 : (I338 235 12) = ((uI J 235 12 (wr ((J 235 12) + 1))) 235 12) := hW341 _ _ (by omega)
                      have u347 : ((uI J 235 12 (wr ((J 235 12) + 1))) 235 12) = (wr ((J 235 12) + 1)) := rfl
                      have r348 : 0 ≤ (I338 235 12) ∧ (I338 235 12) ≤ 20000000 := Rg.f12 hR339
                      have a349 : -2147483648 ≤ (I338 235 12) ∧ (I338 235 12) < 2147483648 := hA340.1 _ _
                      exact ih tm (wr (k + 1)) I338 hR339 (fun k j hk => ((hW341 k j (by omega))).trans (((uI_o (by omega))).trans ((hV k j (by omega))))) (show (tm : Int) ≤ 300000 from by first | omega | (simp only [wr, wl] at *; omega)) (show (0 : Int) ≤ (wr (k + 1)) from by first | omega | (simp only [wr, wl] at *; omega)) (show ((wr (k + 1)) : Int) ≤ 300000 from by first | omega | (simp only [wr, wl] at *; omega)) (show (I338 235 16) ≤ B + (wr (k + 1)) from by first | omega | (simp only [wr, wl] at *; omega)) (show (I338 235 12) ≤ B + (wr (k + 1)) from by first | omega | (simp only [wr, wl] at *; omega)) (show (tm - (wr (k + 1))).toNat < m from by omega)
                    ·
                      exact ⟨rfl, hQ _ hJ (fun k j hk => (hV k j (by omega))) (show (J 235 16) ≤ B + 300000 from by first | omega | (simp only [wr, wl] at *; omega)) (show (J 235 12) ≤ B + 300000 from by first | omega | (simp only [wr, wl] at *; omega))⟩
theorem r_does (hF : FS F) (hR : Rg I) {v0 v1 : Int} (B : Int) (hB : 0 ≤ B ∧ B ≤ 19000000) (hn : v1 ≤ 300000) (hb : I 235 16 ≤ B) (hx : I 235 12 ≤ B) (hQ : ∀ (I' : pI), Rg I' → AR I' → (∀ k j, ¬ ((k = 235 ∧ 12 ≤ j ∧ j ≤ 18) ∨ (242 ≤ k ∧ k ≤ 244)) → I' k j = I k j) → ((I' 235 16) ≤ B + 300000) → ((I' 235 12) ≤ B + 300000) → Q none F I') : CallN G (d + 5) kX12_does [vr 235, vi v0, vi v1] NP F I Q := by
  refine CallN_in (fun hok hA => CallN_out ?_)
  have iv0 : -2147483648 ≤ v0 ∧ v0 < 2147483648 := hok (vi v0) (by simp)
  have iv1 : -2147483648 ≤ v1 ∧ v1 < 2147483648 := hok (vi v1) (by simp)
  refine Call_wp (lv := [some (vr 235), some (vi v0), some (vi v1), none, none]) (by decide) ckX12_does [30] rfl rfl ?_
  refine ⟨fun (c1 : (¬ (v0 : Int) = 4)) => ?_, fun (c1 : ((v0 : Int) = 4)) => ?_⟩
  ·
    refine ⟨fun (c2 : ((v0 : Int) = 1)) => ?_, fun (c2 : (¬ ((v0 : Int) = 1))) => ?_⟩
    ·
      have r3 : 0 ≤ (I 235 16) ∧ (I 235 16) ≤ 20000000 := Rg.f16 hR
      have a4 : -2147483648 ≤ (I 235 16) ∧ (I 235 16) < 2147483648 := hA.1 _ _
      have r5 : 0 ≤ (I 235 12) ∧ (I 235 12) ≤ 20000000 := Rg.f12 hR
      have a6 : -2147483648 ≤ (I 235 12) ∧ (I 235 12) < 2147483648 := hA.1 _ _
      refine r_does_l hF hR B hB (fun I' g1 g2 g3 g4 hv hA' => hQ _ g1 hA' g2 g3 g4) _ 300 0 I hR (fun _ _ _ => rfl) (show (300 : Int) ≤ 300000 from by first | omega | (simp only [wr, wl] at *; omega)) (show (0 : Int) ≤ 0 from by first | omega | (simp only [wr, wl] at *; omega)) (show (0 : Int) ≤ 300000 from by first | omega | (simp only [wr, wl] at *; omega)) (show (I 235 16) ≤ B + 0 from by first | omega | (simp only [wr, wl] at *; omega)) (show (I 235 12) ≤ B + 0 from by first | omega | (simp only [wr, wl] at *; omega)) (Nat.lt_succ_self _)
    ·
      refine ⟨fun (c7 : (¬ (v0 : Int) = 5)) => ?_, fun (c7 : ((v0 : Int) = 5)) => ?_⟩
      ·
        have r8 : 0 ≤ (I 235 16) ∧ (I 235 16) ≤ 20000000 := Rg.f16 hR
        have a9 : -2147483648 ≤ (I 235 16) ∧ (I 235 16) < 2147483648 := hA.1 _ _
        have r10 : 0 ≤ (I 235 12) ∧ (I 235 12) ≤ 20000000 := Rg.f12 hR
        have a11 : -2147483648 ≤ (I 235 12) ∧ (I 235 12) < 2147483648 := hA.1 _ _
        refine r_does_l hF hR B hB (fun I' g1 g2 g3 g4 hv hA' => hQ _ g1 hA' g2 g3 g4) _ v1 0 I hR (fun _ _ _ => rfl) (show (v1 : Int) ≤ 300000 from by first | omega | (simp only [wr, wl] at *; omega)) (show (0 : Int) ≤ 0 from by first | omega | (simp only [wr, wl] at *; omega)) (show (0 : Int) ≤ 300000 from by first | omega | (simp only [wr, wl] at *; omega)) (show (I 235 16) ≤ B + 0 from by first | omega | (simp only [wr, wl] at *; omega)) (show (I 235 12) ≤ B + 0 from by first | omega | (simp only [wr, wl] at *; omega)) (Nat.lt_succ_self _)
      ·
        have r12 : 0 ≤ (I 235 16) ∧ (I 235 16) ≤ 20000000 := Rg.f16 hR
        have a13 : -2147483648 ≤ (I 235 16) ∧ (I 235 16) < 2147483648 := hA.1 _ _
        have r14 : 0 ≤ (I 235 12) ∧ (I 235 12) ≤ 20000000 := Rg.f12 hR
        have a15 : -2147483648 ≤ (I 235 12) ∧ (I 235 12) < 2147483648 := hA.1 _ _
        refine r_does_l hF hR B hB (fun I' g1 g2 g3 g4 hv hA' => hQ _ g1 hA' g2 g3 g4) _ 300 0 I hR (fun _ _ _ => rfl) (show (300 : Int) ≤ 300000 from by first | omega | (simp only [wr, wl] at *; omega)) (show (0 : Int) ≤ 0 from by first | omega | (simp only [wr, wl] at *; omega)) (show (0 : Int) ≤ 300000 from by first | omega | (simp only [wr, wl] at *; omega)) (show (I 235 16) ≤ B + 0 from by first | omega | (simp only [wr, wl] at *; omega)) (show (I 235 12) ≤ B + 0 from by first | omega | (simp only [wr, wl] at *; omega)) (Nat.lt_succ_self _)
  ·
    have r16 : 0 ≤ (I 235 16) ∧ (I 235 16) ≤ 20000000 := Rg.f16 hR
    have a17 : -2147483648 ≤ (I 235 16) ∧ (I 235 16) < 2147483648 := hA.1 _ _
    have r18 : 0 ≤ (I 235 12) ∧ (I 235 12) ≤ 20000000 := Rg.f12 hR
    have a19 : -2147483648 ≤ (I 235 12) ∧ (I 235 12) < 2147483648 := hA.1 _ _
    refine r_does_l hF hR B hB (fun I' g1 g2 g3 g4 hv hA' => hQ _ g1 hA' g2 g3 g4) _ 1 0 I hR (fun _ _ _ => rfl) (show (1 : Int) ≤ 300000 from by first | omega | (simp only [wr, wl] at *; omega)) (show (0 : Int) ≤ 0 from by first | omega | (simp only [wr, wl] at *; omega)) (show (0 : Int) ≤ 300000 from by first | omega | (simp only [wr, wl] at *; omega)) (show (I 235 16) ≤ B + 0 from by first | omega | (simp only [wr, wl] at *; omega)) (show (I 235 12) ≤ B + 0 from by first | omega | (simp only [wr, wl] at *; omega)) (Nat.lt_succ_self _)
theorem r_go_l2 (hF : FS F) (hR : Rg I) {v0 v1 : Int} (hg : 0 ≤ v0 ∧ v0 ≤ 3) (hQ : ∀ (r : Int) (I' : pI), Rg I' → (∀ k j, ¬ ((k = 235 ∧ 11 ≤ j ∧ j ≤ 18) ∨ (242 ≤ k ∧ k ≤ 244)) → I' k j = I k j) → Q (some (vi r)) F I') : ∀ (m : Nat) (k e : Int) (J : pI), Rg J → (∀ k j, ¬ ((k = 235 ∧ 11 ≤ j ∧ j ≤ 18) ∨ (242 ≤ k ∧ k ≤ 244)) → J k j = I k j) → (0 : Int) ≤ k → (k : Int) ≤ 17 → (J 235 16) ≤ 5100000 + 300000 * k → (J 235 12) ≤ 5100000 + 300000 * k → (17 - k).toNat < m → GoN G (d + 6) kX12_goThrough NP NP 142 [some (vr 235), some (vi v0), some (vi v1), some (vi (wr (40 + (wr (36 * v0))))), some (vi k), some (vi e)] [] F J Q := by
  intro m
  induction m with
  | zero => intro k e J hJ hV _ _ _ _ h; exact absurd h (Nat.not_lt_zero _)
  | succ m ih =>
    intro k e J hJ hV c100 c101 c102 c103 hm
    refine GoN_in (fun hok hA => ?_)
    have iv0 : -2147483648 ≤ v0 ∧ v0 < 2147483648 := hok 1 _ rfl
    have iv1 : -2147483648 ≤ v1 ∧ v1 < 2147483648 := hok 2 _ rfl
    have ik : -2147483648 ≤ k ∧ k < 2147483648 := hok 4 _ rfl
    have ie : -2147483648 ≤ e ∧ e < 2147483648 := hok 5 _ rfl
    have r1 : 0 ≤ (J 235 16) ∧ (J 235 16) ≤ 20000000 := Rg.f16 hJ
    have a2 : -2147483648 ≤ (J 235 16) ∧ (J 235 16) < 2147483648 := hA.1 _ _
    have r3 : 0 ≤ (J 235 12) ∧ (J 235 12) ≤ 20000000 := Rg.f12 hJ
    have a4 : -2147483648 ≤ (J 235 12) ∧ (J 235 12) < 2147483648 := hA.1 _ _
    refine Go_wp (by decide) ckX12_goThrough [142] ?_
    refine ⟨_, rfl, (by decide), ?_⟩
    refine fun w0 hw0 => ?_; obtain rfl : w0 = some 236 := hw0.symm.trans (FS.g hF rfl)
    have n5 : (wr (36 * v0)) = 36 * v0 := wr_id (show -2147483648 ≤ (36 * v0 : Int) ∧ (36 * v0 : Int) < 2147483648 from by omega)
    have n6 : (wr (40 + (wr (36 * v0)))) = 40 + (wr (36 * v0)) := wr_id (show -2147483648 ≤ (40 + (wr (36 * v0)) : Int) ∧ (40 + (wr (36 * v0)) : Int) < 2147483648 from by omega)
    have n7 : (wr ((wr (40 + (wr (36 * v0)))) + 0)) = (wr (40 + (wr (36 * v0)))) + 0 := wr_id (show -2147483648 ≤ ((wr (40 + (wr (36 * v0)))) + 0 : Int) ∧ ((wr (40 + (wr (36 * v0)))) + 0 : Int) < 2147483648 from by omega)
    refine ⟨_, rfl, (by decide), (show (0 : Int) ≤ (wr ((wr (40 + (wr (36 * v0)))) + 0)) from by first | omega | (simp only [wr, wl] at *; omega)), (show (wr ((wr (40 + (wr (36 * v0)))) + 0)) < (1340 : Int) from by first | omega | (simp only [wr, wl] at *; omega)), ?_⟩
    have r8 : 0 ≤ (I 236 (Int.toNat (wr ((wr (40 + (wr (36 * v0)))) + 0)))) ∧ (I 236 (Int.toNat (wr ((wr (40 + (wr (36 * v0)))) + 0)))) ≤ 17 := Pn_g0 (p := (Int.toNat v0)) (by omega) (by omega) (hR.n 236 (Int.toNat (wr ((wr (40 + (wr (36 * v0)))) + 0))) (Or.inl rfl))
    have u9 : (J 236 (Int.toNat (wr ((wr (40 + (wr (36 * v0)))) + 0)))) = (I 236 (Int.toNat (wr ((wr (40 + (wr (36 * v0)))) + 0)))) := hV _ _ (by omega)
    have a10 : -2147483648 ≤ (I 236 (Int.toNat (wr ((wr (40 + (wr (36 * v0)))) + 0)))) ∧ (I 236 (Int.toNat (wr ((wr (40 + (wr (36 * v0)))) + 0)))) < 2147483648 := hA.1 _ _
    have r11 : 0 ≤ (J 236 (Int.toNat (wr ((wr (40 + (wr (36 * v0)))) + 0)))) ∧ (J 236 (Int.toNat (wr ((wr (40 + (wr (36 * v0)))) + 0)))) ≤ 17 := Pn_g0 (p := (Int.toNat v0)) (by omega) (by omega) (hJ.n 236 (Int.toNat (wr ((wr (40 + (wr (36 * v0)))) + 0))) (Or.inl rfl))
    have a12 : -2147483648 ≤ (J 236 (Int.toNat (wr ((wr (40 + (wr (36 * v0)))) + 0)))) ∧ (J 236 (Int.toNat (wr ((wr (40 + (wr (36 * v0)))) + 0)))) < 2147483648 := hA.1 _ _
    refine ⟨fun (c13 : (((J 236 (Int.toNat (wr ((wr (40 + (wr (36 * v0)))) + 0)))) : Int) ≤ k)) => ?_, fun (c13 : (¬ (((J 236 (Int.toNat (wr ((wr (40 + (wr (36 * v0)))) + 0)))) : Int) ≤ k))) => ?_⟩
    ·
      exact ⟨rfl, hQ _ _ hJ (fun k j hk => (hV k j (by omega)))⟩
    ·
      refine ⟨_, rfl, (by decide), ?_⟩
      refine fun w0 hw0 => ?_; obtain rfl : w0 = some 236 := hw0.symm.trans (FS.g hF rfl)
      have n14 : (wr ((wr (40 + (wr (36 * v0)))) + 2)) = (wr (40 + (wr (36 * v0)))) + 2 := wr_id (show -2147483648 ≤ ((wr (40 + (wr (36 * v0)))) + 2 : Int) ∧ ((wr (40 + (wr (36 * v0)))) + 2 : Int) < 2147483648 from by omega)
      have n15 : (wr (2 * k)) = 2 * k := wr_id (show -2147483648 ≤ (2 * k : Int) ∧ (2 * k : Int) < 2147483648 from by omega)
      have n16 : (wr ((wr ((wr (40 + (wr (36 * v0)))) + 2)) + (wr (2 * k)))) = (wr ((wr (40 + (wr (36 * v0)))) + 2)) + (wr (2 * k)) := wr_id (show -2147483648 ≤ ((wr ((wr (40 + (wr (36 * v0)))) + 2)) + (wr (2 * k)) : Int) ∧ ((wr ((wr (40 + (wr (36 * v0)))) + 2)) + (wr (2 * k)) : Int) < 2147483648 from by omega)
      refine ⟨_, rfl, (by decide), (show (0 : Int) ≤ (wr ((wr ((wr (40 + (wr (36 * v0)))) + 2)) + (wr (2 * k)))) from by first | omega | (simp only [wr, wl] at *; omega)), (show (wr ((wr ((wr (40 + (wr (36 * v0)))) + 2)) + (wr (2 * k)))) < (1340 : Int) from by first | omega | (simp only [wr, wl] at *; omega)), ?_⟩
      have u17 : (J 236 (Int.toNat (wr ((wr ((wr (40 + (wr (36 * v0)))) + 2)) + (wr (2 * k)))))) = (I 236 (Int.toNat (wr ((wr ((wr (40 + (wr (36 * v0)))) + 2)) + (wr (2 * k)))))) := hV _ _ (by omega)
      have a18 : -2147483648 ≤ (I 236 (Int.toNat (wr ((wr ((wr (40 + (wr (36 * v0)))) + 2)) + (wr (2 * k)))))) ∧ (I 236 (Int.toNat (wr ((wr ((wr (40 + (wr (36 * v0)))) + 2)) + (wr (2 * k)))))) < 2147483648 := hA.1 _ _
      refine ⟨_, rfl, (by decide), ?_⟩
      refine fun w0 hw0 => ?_; obtain rfl : w0 = some 236 := hw0.symm.trans (FS.g hF rfl)
      have n19 : (wr ((wr ((wr ((wr (40 + (wr (36 * v0)))) + 2)) + (wr (2 * k)))) + 1)) = (wr ((wr ((wr (40 + (wr (36 * v0)))) + 2)) + (wr (2 * k)))) + 1 := wr_id (show -2147483648 ≤ ((wr ((wr ((wr (40 + (wr (36 * v0)))) + 2)) + (wr (2 * k)))) + 1 : Int) ∧ ((wr ((wr ((wr (40 + (wr (36 * v0)))) + 2)) + (wr (2 * k)))) + 1 : Int) < 2147483648 from by omega)
      refine ⟨_, rfl, (by decide), (show (0 : Int) ≤ (wr ((wr ((wr ((wr (40 + (wr (36 * v0)))) + 2)) + (wr (2 * k)))) + 1)) from by first | omega | (simp only [wr, wl] at *; omega)), (show (wr ((wr ((wr ((wr (40 + (wr (36 * v0)))) + 2)) + (wr (2 * k)))) + 1)) < (1340 : Int) from by first | omega | (simp only [wr, wl] at *; omega)), ?_⟩
      have r20 : (I 236 (Int.toNat (wr ((wr ((wr ((wr (40 + (wr (36 * v0)))) + 2)) + (wr (2 * k)))) + 1)))) ≤ 300000 := Pn_ga2 (p := Int.toNat ((wr ((wr ((wr ((wr (40 + (wr (36 * v0)))) + 2)) + (wr (2 * k)))) + 1)) - 40)) (by omega) (by omega) (hR.n 236 (Int.toNat (wr ((wr ((wr ((wr (40 + (wr (36 * v0)))) + 2)) + (wr (2 * k)))) + 1))) (Or.inl rfl))
      have u21 : (J 236 (Int.toNat (wr ((wr ((wr ((wr (40 + (wr (36 * v0)))) + 2)) + (wr (2 * k)))) + 1)))) = (I 236 (Int.toNat (wr ((wr ((wr ((wr (40 + (wr (36 * v0)))) + 2)) + (wr (2 * k)))) + 1)))) := hV _ _ (by omega)
      have a22 : -2147483648 ≤ (I 236 (Int.toNat (wr ((wr ((wr ((wr (40 + (wr (36 * v0)))) + 2)) + (wr (2 * k)))) + 1)))) ∧ (I 236 (Int.toNat (wr ((wr ((wr ((wr (40 + (wr (36 * v0)))) + 2)) + (wr (2 * k)))) + 1)))) < 2147483648 := hA.1 _ _
      have r23 : (J 236 (Int.toNat (wr ((wr ((wr ((wr (40 + (wr (36 * v0)))) + 2)) + (wr (2 * k)))) + 1)))) ≤ 300000 := Pn_ga2 (p := Int.toNat ((wr ((wr ((wr ((wr (40 + (wr (36 * v0)))) + 2)) + (wr (2 * k)))) + 1)) - 40)) (by omega) (by omega) (hJ.n 236 (Int.toNat (wr ((wr ((wr ((wr (40 + (wr (36 * v0)))) + 2)) + (wr (2 * k)))) + 1))) (Or.inl rfl))
      refine ⟨⟨_, rfl, (by decide)⟩, ?_⟩
      have a24 : -2147483648 ≤ (J 236 (Int.toNat (wr ((wr ((wr (40 + (wr (36 * v0)))) + 2)) + (wr (2 * k)))))) ∧ (J 236 (Int.toNat (wr ((wr ((wr (40 + (wr (36 * v0)))) + 2)) + (wr (2 * k)))))) < 2147483648 := hA.1 _ _
      have a25 : -2147483648 ≤ (J 236 (Int.toNat (wr ((wr ((wr ((wr (40 + (wr (36 * v0)))) + 2)) + (wr (2 * k)))) + 1)))) ∧ (J 236 (Int.toNat (wr ((wr ((wr ((wr (40 + (wr (36 * v0)))) + 2)) + (wr (2 * k)))) + 1)))) < 2147483648 := hA.1 _ _
      refine r_does hF hJ (5100000 + 300000 * k) (by omega) (by omega) (show (J 235 16) ≤ (5100000 + 300000 * k) from by first | omega | (simp only [wr, wl] at *; omega)) (show (J 235 12) ≤ (5100000 + 300000 * k) from by first | omega | (simp only [wr, wl] at *; omega)) (fun I26 hR27 hA28 hW29 q30 q31 => ?_)
      have n32 : (wr (k + 1)) = k + 1 := wr_id (show -2147483648 ≤ (k + 1 : Int) ∧ (k + 1 : Int) < 2147483648 from by omega)
      have r33 : 0 ≤ (I26 235 16) ∧ (I26 235 16) ≤ 20000000 := Rg.f16 hR27
      have a34 : -2147483648 ≤ (I26 235 16) ∧ (I26 235 16) < 2147483648 := hA28.1 _ _
      have r35 : 0 ≤ (I26 235 12) ∧ (I26 235 12) ≤ 20000000 := Rg.f12 hR27
      have a36 : -2147483648 ≤ (I26 235 12) ∧ (I26 235 12) < 2147483648 := hA28.1 _ _
      exact ih (wr (k + 1)) e I26 hR27 (fun k j hk => ((hW29 k j (by omega))).trans ((hV k j (by omega)))) (show (0 : Int) ≤ (wr (k + 1)) from by first | omega | (simp only [wr, wl] at *; omega)) (show ((wr (k + 1)) : Int) ≤ 17 from by first | omega | (simp only [wr, wl] at *; omega)) (show (I26 235 16) ≤ 5100000 + 300000 * (wr (k + 1)) from by first | omega | (simp only [wr, wl] at *; omega)) (show (I26 235 12) ≤ 5100000 + 300000 * (wr (k + 1)) from by first | omega | (simp only [wr, wl] at *; omega)) (show (17 - (wr (k + 1))).toNat < m from by omega)
theorem r_go_l1 (hF : FS F) (hR : Rg I) {v0 v1 : Int} (hg : 0 ≤ v0 ∧ v0 ≤ 3) (hQ : ∀ (r : Int) (I' : pI), Rg I' → (∀ k j, ¬ ((k = 235 ∧ 11 ≤ j ∧ j ≤ 18) ∨ (242 ≤ k ∧ k ≤ 244)) → I' k j = I k j) → Q (some (vi r)) F I') : ∀ (m : Nat) (k : Int) (J : pI), Rg J → (∀ k j, ¬ ((k = 235 ∧ 11 ≤ j ∧ j ≤ 18) ∨ (242 ≤ k ∧ k ≤ 244)) → J k j = I k j) → (0 : Int) ≤ k → (k : Int) ≤ 17 → (J 235 16) ≤ 300000 * k → (J 235 12) ≤ 300000 * k → (17 - k).toNat < m → GoN G (d + 6) kX12_goThrough NP NP 51 [some (vr 235), some (vi v0), some (vi v1), some (vi (wr (40 + (wr (36 * v0))))), some (vi k), none] [] F J Q := by
  intro m
  induction m with
  | zero => intro k J hJ hV _ _ _ _ h; exact absurd h (Nat.not_lt_zero _)
  | succ m ih =>
    intro k J hJ hV c100 c101 c102 c103 hm
    refine GoN_in (fun hok hA => ?_)
    have iv0 : -2147483648 ≤ v0 ∧ v0 < 2147483648 := hok 1 _ rfl
    have iv1 : -2147483648 ≤ v1 ∧ v1 < 2147483648 := hok 2 _ rfl
    have ik : -2147483648 ≤ k ∧ k < 2147483648 := hok 4 _ rfl
    have r1 : 0 ≤ (J 235 16) ∧ (J 235 16) ≤ 20000000 := Rg.f16 hJ
    have a2 : -2147483648 ≤ (J 235 16) ∧ (J 235 16) < 2147483648 := hA.1 _ _
    have r3 : 0 ≤ (J 235 12) ∧ (J 235 12) ≤ 20000000 := Rg.f12 hJ
    have a4 : -2147483648 ≤ (J 235 12) ∧ (J 235 12) < 2147483648 := hA.1 _ _
    refine Go_wp (by decide) ckX12_goThrough [51, 142] ?_
    refine ⟨_, rfl, (by decide), ?_⟩
    refine fun w0 hw0 => ?_; obtain rfl : w0 = some 236 := hw0.symm.trans (FS.g hF rfl)
    have n5 : (wr (36 * v0)) = 36 * v0 := wr_id (show -2147483648 ≤ (36 * v0 : Int) ∧ (36 * v0 : Int) < 2147483648 from by omega)
    have n6 : (wr (40 + (wr (36 * v0)))) = 40 + (wr (36 * v0)) := wr_id (show -2147483648 ≤ (40 + (wr (36 * v0)) : Int) ∧ (40 + (wr (36 * v0)) : Int) < 2147483648 from by omega)
    have n7 : (wr ((wr (40 + (wr (36 * v0)))) + 1)) = (wr (40 + (wr (36 * v0)))) + 1 := wr_id (show -2147483648 ≤ ((wr (40 + (wr (36 * v0)))) + 1 : Int) ∧ ((wr (40 + (wr (36 * v0)))) + 1 : Int) < 2147483648 from by omega)
    refine ⟨_, rfl, (by decide), (show (0 : Int) ≤ (wr ((wr (40 + (wr (36 * v0)))) + 1)) from by first | omega | (simp only [wr, wl] at *; omega)), (show (wr ((wr (40 + (wr (36 * v0)))) + 1)) < (1340 : Int) from by first | omega | (simp only [wr, wl] at *; omega)), ?_⟩
    have r8 : 0 ≤ (I 236 (Int.toNat (wr ((wr (40 + (wr (36 * v0)))) + 1)))) ∧ (I 236 (Int.toNat (wr ((wr (40 + (wr (36 * v0)))) + 1)))) ≤ 17 := Pn_g1 (p := (Int.toNat v0)) (by omega) (by omega) (hR.n 236 (Int.toNat (wr ((wr (40 + (wr (36 * v0)))) + 1))) (Or.inl rfl))
    have u9 : (J 236 (Int.toNat (wr ((wr (40 + (wr (36 * v0)))) + 1)))) = (I 236 (Int.toNat (wr ((wr (40 + (wr (36 * v0)))) + 1)))) := hV _ _ (by omega)
    have a10 : -2147483648 ≤ (I 236 (Int.toNat (wr ((wr (40 + (wr (36 * v0)))) + 1)))) ∧ (I 236 (Int.toNat (wr ((wr (40 + (wr (36 * v0)))) + 1)))) < 2147483648 := hA.1 _ _
    have r11 : 0 ≤ (J 236 (Int.toNat (wr ((wr (40 + (wr (36 * v0)))) + 1)))) ∧ (J 236 (Int.toNat (wr ((wr (40 + (wr (36 * v0)))) + 1)))) ≤ 17 := Pn_g1 (p := (Int.toNat v0)) (by omega) (by omega) (hJ.n 236 (Int.toNat (wr ((wr (40 + (wr (36 * v0)))) + 1))) (Or.inl rfl))
    have a12 : -2147483648 ≤ (J 236 (Int.toNat (wr ((wr (40 + (wr (36 * v0)))) + 1)))) ∧ (J 236 (Int.toNat (wr ((wr (40 + (wr (36 * v0)))) + 1)))) < 2147483648 := hA.1 _ _
    refine ⟨fun (c13 : (((J 236 (Int.toNat (wr ((wr (40 + (wr (36 * v0)))) + 1)))) : Int) ≤ k)) => ?_, fun (c13 : (¬ (((J 236 (Int.toNat (wr ((wr (40 + (wr (36 * v0)))) + 1)))) : Int) ≤ k))) => ?_⟩
    ·
      refine ⟨_, rfl, (by decide), ?_⟩
      have a14 : -2147483648 ≤ (J 235 15) ∧ (J 235 15) < 2147483648 := hA.1 _ _
      refine ⟨fun (c15 : (¬ ((J 235 15) : Int) = 0)) => ?_, fun (c15 : (((J 235 15) : Int) = 0)) => ?_⟩
      ·
        refine ⟨_, rfl, (by decide), (by decide), ?_⟩
        refine ⟨_, rfl, (by decide), ?_⟩
        refine fun w0 hw0 => ?_; obtain rfl : w0 = some 236 := hw0.symm.trans (FS.g hF rfl)
        refine ⟨_, rfl, (by decide), (show (0 : Int) ≤ (wr ((wr (40 + (wr (36 * v0)))) + 1)) from by first | omega | (simp only [wr, wl] at *; omega)), (show (wr ((wr (40 + (wr (36 * v0)))) + 1)) < (1340 : Int) from by first | omega | (simp only [wr, wl] at *; omega)), ?_⟩
        have n16 : (wr (k - 1)) = k - 1 := wr_id (show -2147483648 ≤ (k - 1 : Int) ∧ (k - 1 : Int) < 2147483648 from by omega)
        refine r_go_l2 hF hR (by omega) hQ _ (J 236 (Int.toNat (wr ((wr (40 + (wr (36 * v0)))) + 1)))) (wr (k - 1)) (uI J 235 14 1) (Rg.u hJ (Pr_f rfl)) (fun k j hk => ((uI_o (by omega))).trans ((hV k j (by omega)))) (show (0 : Int) ≤ (J 236 (Int.toNat (wr ((wr (40 + (wr (36 * v0)))) + 1)))) from by first | omega | (simp only [wr, wl] at *; omega)) (show ((J 236 (Int.toNat (wr ((wr (40 + (wr (36 * v0)))) + 1)))) : Int) ≤ 17 from by first | omega | (simp only [wr, wl] at *; omega)) (show (J 235 16) ≤ 5100000 + 300000 * (J 236 (Int.toNat (wr ((wr (40 + (wr (36 * v0)))) + 1)))) from by first | omega | (simp only [wr, wl] at *; omega)) (show (J 235 12) ≤ 5100000 + 300000 * (J 236 (Int.toNat (wr ((wr (40 + (wr (36 * v0)))) + 1)))) from by first | omega | (simp only [wr, wl] at *; omega)) (Nat.lt_succ_self _)
      ·
        refine ⟨_, rfl, (by decide), (by decide), ?_⟩
        refine ⟨_, rfl, (by decide), ?_⟩
        refine fun w0 hw0 => ?_; obtain rfl : w0 = some 236 := hw0.symm.trans (FS.g hF rfl)
        refine ⟨_, rfl, (by decide), (show (0 : Int) ≤ (wr ((wr (40 + (wr (36 * v0)))) + 1)) from by first | omega | (simp only [wr, wl] at *; omega)), (show (wr ((wr (40 + (wr (36 * v0)))) + 1)) < (1340 : Int) from by first | omega | (simp only [wr, wl] at *; omega)), ?_⟩
        refine r_go_l2 hF hR (by omega) hQ _ (J 236 (Int.toNat (wr ((wr (40 + (wr (36 * v0)))) + 1)))) k (uI J 235 14 1) (Rg.u hJ (Pr_f rfl)) (fun k j hk => ((uI_o (by omega))).trans ((hV k j (by omega)))) (show (0 : Int) ≤ (J 236 (Int.toNat (wr ((wr (40 + (wr (36 * v0)))) + 1)))) from by first | omega | (simp only [wr, wl] at *; omega)) (show ((J 236 (Int.toNat (wr ((wr (40 + (wr (36 * v0)))) + 1)))) : Int) ≤ 17 from by first | omega | (simp only [wr, wl] at *; omega)) (show (J 235 16) ≤ 5100000 + 300000 * (J 236 (Int.toNat (wr ((wr (40 + (wr (36 * v0)))) + 1)))) from by first | omega | (simp only [wr, wl] at *; omega)) (show (J 235 12) ≤ 5100000 + 300000 * (J 236 (Int.toNat (wr ((wr (40 + (wr (36 * v0)))) + 1)))) from by first | omega | (simp only [wr, wl] at *; omega)) (Nat.lt_succ_self _)
    ·
      refine ⟨_, rfl, (by decide), ?_⟩
      have a17 : -2147483648 ≤ (J 235 15) ∧ (J 235 15) < 2147483648 := hA.1 _ _
      refine ⟨fun (c18 : (¬ ((J 235 15) : Int) = 0)) => ?_, fun (c18 : (((J 235 15) : Int) = 0)) => ?_⟩
      ·
        refine ⟨_, rfl, (by decide), ?_⟩
        refine ⟨fun _ => ?_, fun c => absurd c (show (¬ ((J 235 15) : Int) = 0) from by first | omega | (simp only [wr, wl] at *; omega))⟩
        refine ⟨_, rfl, (by decide), (by decide), ?_⟩
        refine ⟨_, rfl, (by decide), ?_⟩
        refine fun w0 hw0 => ?_; obtain rfl : w0 = some 236 := hw0.symm.trans (FS.g hF rfl)
        refine ⟨_, rfl, (by decide), (show (0 : Int) ≤ (wr ((wr (40 + (wr (36 * v0)))) + 1)) from by first | omega | (simp only [wr, wl] at *; omega)), (show (wr ((wr (40 + (wr (36 * v0)))) + 1)) < (1340 : Int) from by first | omega | (simp only [wr, wl] at *; omega)), ?_⟩
        have n19 : (wr (k - 1)) = k - 1 := wr_id (show -2147483648 ≤ (k - 1 : Int) ∧ (k - 1 : Int) < 2147483648 from by omega)
        refine r_go_l2 hF hR (by omega) hQ _ (J 236 (Int.toNat (wr ((wr (40 + (wr (36 * v0)))) + 1)))) (wr (k - 1)) (uI J 235 14 1) (Rg.u hJ (Pr_f rfl)) (fun k j hk => ((uI_o (by omega))).trans ((hV k j (by omega)))) (show (0 : Int) ≤ (J 236 (Int.toNat (wr ((wr (40 + (wr (36 * v0)))) + 1)))) from by first | omega | (simp only [wr, wl] at *; omega)) (show ((J 236 (Int.toNat (wr ((wr (40 + (wr (36 * v0)))) + 1)))) : Int) ≤ 17 from by first | omega | (simp only [wr, wl] at *; omega)) (show (J 235 16) ≤ 5100000 + 300000 * (J 236 (Int.toNat (wr ((wr (40 + (wr (36 * v0)))) + 1)))) from by first | omega | (simp only [wr, wl] at *; omega)) (show (J 235 12) ≤ 5100000 + 300000 * (J 236 (Int.toNat (wr ((wr (40 + (wr (36 * v0)))) + 1)))) from by first | omega | (simp only [wr, wl] at *; omega)) (Nat.lt_succ_self _)
      ·
        refine ⟨_, rfl, (by decide), ?_⟩
        refine fun w0 hw0 => ?_; obtain rfl : w0 = some 236 := hw0.symm.trans (FS.g hF rfl)
        have n20 : (wr ((wr (40 + (wr (36 * v0)))) + 2)) = (wr (40 + (wr (36 * v0)))) + 2 := wr_id (show -2147483648 ≤ ((wr (40 + (wr (36 * v0)))) + 2 : Int) ∧ ((wr (40 + (wr (36 * v0)))) + 2 : Int) < 2147483648 from by omega)
        have n21 : (wr (2 * k)) = 2 * k := wr_id (show -2147483648 ≤ (2 * k : Int) ∧ (2 * k : Int) < 2147483648 from by omega)
        have n22 : (wr ((wr ((wr (40 + (wr (36 * v0)))) + 2)) + (wr (2 * k)))) = (wr ((wr (40 + (wr (36 * v0)))) + 2)) + (wr (2 * k)) := wr_id (show -2147483648 ≤ ((wr ((wr (40 + (wr (36 * v0)))) + 2)) + (wr (2 * k)) : Int) ∧ ((wr ((wr (40 + (wr (36 * v0)))) + 2)) + (wr (2 * k)) : Int) < 2147483648 from by omega)
        refine ⟨_, rfl, (by decide), (show (0 : Int) ≤ (wr ((wr ((wr (40 + (wr (36 * v0)))) + 2)) + (wr (2 * k)))) from by first | omega | (simp only [wr, wl] at *; omega)), (show (wr ((wr ((wr (40 + (wr (36 * v0)))) + 2)) + (wr (2 * k)))) < (1340 : Int) from by first | omega | (simp only [wr, wl] at *; omega)), ?_⟩
        have u23 : (J 236 (Int.toNat (wr ((wr ((wr (40 + (wr (36 * v0)))) + 2)) + (wr (2 * k)))))) = (I 236 (Int.toNat (wr ((wr ((wr (40 + (wr (36 * v0)))) + 2)) + (wr (2 * k)))))) := hV _ _ (by omega)
        have a24 : -2147483648 ≤ (I 236 (Int.toNat (wr ((wr ((wr (40 + (wr (36 * v0)))) + 2)) + (wr (2 * k)))))) ∧ (I 236 (Int.toNat (wr ((wr ((wr (40 + (wr (36 * v0)))) + 2)) + (wr (2 * k)))))) < 2147483648 := hA.1 _ _
        refine ⟨_, rfl, (by decide), ?_⟩
        refine fun w0 hw0 => ?_; obtain rfl : w0 = some 236 := hw0.symm.trans (FS.g hF rfl)
        have n25 : (wr ((wr ((wr ((wr (40 + (wr (36 * v0)))) + 2)) + (wr (2 * k)))) + 1)) = (wr ((wr ((wr (40 + (wr (36 * v0)))) + 2)) + (wr (2 * k)))) + 1 := wr_id (show -2147483648 ≤ ((wr ((wr ((wr (40 + (wr (36 * v0)))) + 2)) + (wr (2 * k)))) + 1 : Int) ∧ ((wr ((wr ((wr (40 + (wr (36 * v0)))) + 2)) + (wr (2 * k)))) + 1 : Int) < 2147483648 from by omega)
        refine ⟨_, rfl, (by decide), (show (0 : Int) ≤ (wr ((wr ((wr ((wr (40 + (wr (36 * v0)))) + 2)) + (wr (2 * k)))) + 1)) from by first | omega | (simp only [wr, wl] at *; omega)), (show (wr ((wr ((wr ((wr (40 + (wr (36 * v0)))) + 2)) + (wr (2 * k)))) + 1)) < (1340 : Int) from by first | omega | (simp only [wr, wl] at *; omega)), ?_⟩
        have r26 : (I 236 (Int.toNat (wr ((wr ((wr ((wr (40 + (wr (36 * v0)))) + 2)) + (wr (2 * k)))) + 1)))) ≤ 300000 := Pn_ga2 (p := Int.toNat ((wr ((wr ((wr ((wr (40 + (wr (36 * v0)))) + 2)) + (wr (2 * k)))) + 1)) - 40)) (by omega) (by omega) (hR.n 236 (Int.toNat (wr ((wr ((wr ((wr (40 + (wr (36 * v0)))) + 2)) + (wr (2 * k)))) + 1))) (Or.inl rfl))
        have u27 : (J 236 (Int.toNat (wr ((wr ((wr ((wr (40 + (wr (36 * v0)))) + 2)) + (wr (2 * k)))) + 1)))) = (I 236 (Int.toNat (wr ((wr ((wr ((wr (40 + (wr (36 * v0)))) + 2)) + (wr (2 * k)))) + 1)))) := hV _ _ (by omega)
        have a28 : -2147483648 ≤ (I 236 (Int.toNat (wr ((wr ((wr ((wr (40 + (wr (36 * v0)))) + 2)) + (wr (2 * k)))) + 1)))) ∧ (I 236 (Int.toNat (wr ((wr ((wr ((wr (40 + (wr (36 * v0)))) + 2)) + (wr (2 * k)))) + 1)))) < 2147483648 := hA.1 _ _
        have r29 : (J 236 (Int.toNat (wr ((wr ((wr ((wr (40 + (wr (36 * v0)))) + 2)) + (wr (2 * k)))) + 1)))) ≤ 300000 := Pn_ga2 (p := Int.toNat ((wr ((wr ((wr ((wr (40 + (wr (36 * v0)))) + 2)) + (wr (2 * k)))) + 1)) - 40)) (by omega) (by omega) (hJ.n 236 (Int.toNat (wr ((wr ((wr ((wr (40 + (wr (36 * v0)))) + 2)) + (wr (2 * k)))) + 1))) (Or.inl rfl))
        refine ⟨⟨_, rfl, (by decide)⟩, ?_⟩
        have a30 : -2147483648 ≤ (J 236 (Int.toNat (wr ((wr ((wr (40 + (wr (36 * v0)))) + 2)) + (wr (2 * k)))))) ∧ (J 236 (Int.toNat (wr ((wr ((wr (40 + (wr (36 * v0)))) + 2)) + (wr (2 * k)))))) < 2147483648 := hA.1 _ _
        have a31 : -2147483648 ≤ (J 236 (Int.toNat (wr ((wr ((wr ((wr (40 + (wr (36 * v0)))) + 2)) + (wr (2 * k)))) + 1)))) ∧ (J 236 (Int.toNat (wr ((wr ((wr ((wr (40 + (wr (36 * v0)))) + 2)) + (wr (2 * k)))) + 1)))) < 2147483648 := hA.1 _ _
        refine r_does hF hJ (300000 * k) (by omega) (by omega) (show (J 235 16) ≤ (300000 * k) from by first | omega | (simp only [wr, wl] at *; omega)) (show (J 235 12) ≤ (300000 * k) from by first | omega | (simp only [wr, wl] at *; omega)) (fun I32 hR33 hA34 hW35 q36 q37 => ?_)
        have n38 : (wr (k + 1)) = k + 1 := wr_id (show -2147483648 ≤ (k + 1 : Int) ∧ (k + 1 : Int) < 2147483648 from by omega)
        have r39 : 0 ≤ (I32 235 16) ∧ (I32 235 16) ≤ 20000000 := Rg.f16 hR33
        have a40 : -2147483648 ≤ (I32 235 16) ∧ (I32 235 16) < 2147483648 := hA34.1 _ _
        have r41 : 0 ≤ (I32 235 12) ∧ (I32 235 12) ≤ 20000000 := Rg.f12 hR33
        have a42 : -2147483648 ≤ (I32 235 12) ∧ (I32 235 12) < 2147483648 := hA34.1 _ _
        exact ih (wr (k + 1)) I32 hR33 (fun k j hk => ((hW35 k j (by omega))).trans ((hV k j (by omega)))) (show (0 : Int) ≤ (wr (k + 1)) from by first | omega | (simp only [wr, wl] at *; omega)) (show ((wr (k + 1)) : Int) ≤ 17 from by first | omega | (simp only [wr, wl] at *; omega)) (show (I32 235 16) ≤ 300000 * (wr (k + 1)) from by first | omega | (simp only [wr, wl] at *; omega)) (show (I32 235 12) ≤ 300000 * (wr (k + 1)) from by first | omega | (simp only [wr, wl] at *; omega)) (show (17 - (wr (k + 1))).toNat < m from by omega)
theorem r_go (hF : FS F) (hR : Rg I) {v0 v1 : Int} (hg : 0 ≤ v0 ∧ v0 ≤ 3) (hp : 0 ≤ v1 ∧ v1 ≤ 13) (hQ : ∀ (r : Int) (I' : pI), Rg I' → AR I' → iR r → (∀ k j, ¬ ((k = 235 ∧ 11 ≤ j ∧ j ≤ 18) ∨ (242 ≤ k ∧ k ≤ 244)) → I' k j = I k j) → Q (some (vi r)) F I') : CallN G (d + 6) kX12_goThrough [vr 235, vi v0, vi v1] NP F I Q := by
  refine CallN_in (fun hok hA => CallN_out ?_)
  have iv0 : -2147483648 ≤ v0 ∧ v0 < 2147483648 := hok (vi v0) (by simp)
  have iv1 : -2147483648 ≤ v1 ∧ v1 < 2147483648 := hok (vi v1) (by simp)
  refine Call_wp (lv := [some (vr 235), some (vi v0), some (vi v1), none, none, none]) (by decide) ckX12_goThrough [51] rfl rfl ?_
  refine ⟨_, rfl, (by decide), ?_⟩
  have p1 : (0 : Int) ≤ v1 ∧ (v1 : Int) ≤ 13 := by first | omega | (simp only [wr, wl] at *; omega)
  refine ⟨_, rfl, (by decide), ?_⟩
  have p2 : (0 : Int) ≤ 0 ∧ (0 : Int) ≤ 20000000 := by decide
  refine ⟨_, rfl, (by decide), (by decide), ?_⟩
  refine ⟨_, rfl, (by decide), (by decide), ?_⟩
  refine ⟨_, rfl, (by decide), ?_⟩
  refine ⟨_, rfl, (by decide), ?_⟩
  have p3 : (0 : Int) ≤ 0 ∧ (0 : Int) ≤ 20000000 := by decide
  refine ⟨_, rfl, (by decide), ?_⟩
  refine ⟨_, rfl, (by decide), ?_⟩
  have p4 : (0 : Int) ≤ 0 ∧ (0 : Int) ≤ 24 := by decide
  refine r_go_l1 hF hR (by omega) (fun r I' g1 g2 hv hA' => hQ _ _ g1 hA' (hv _ rfl) g2) _ 0 (uI (uI (uI (uI (uI (uI (uI (uI I 235 11 v1) 235 12 0) 235 13 0) 235 14 0) 235 15 0) 235 16 0) 235 17 0) 235 18 0) (Rg.u (Rg.u (Rg.u (Rg.u (Rg.u (Rg.u (Rg.u (Rg.u hR (Pr_x11 p1)) (Pr_x12 p2)) (Pr_f rfl)) (Pr_f rfl)) (Pr_f rfl)) (Pr_x16 p3)) (Pr_f rfl)) (Pr_x18 p4)) (fun k j hk => ((uI_o (by omega))).trans (((uI_o (by omega))).trans (((uI_o (by omega))).trans (((uI_o (by omega))).trans (((uI_o (by omega))).trans (((uI_o (by omega))).trans (((uI_o (by omega))).trans ((uI_o (by omega)))))))))) (show (0 : Int) ≤ 0 from by first | omega | (simp only [wr, wl] at *; omega)) (show (0 : Int) ≤ 17 from by first | omega | (simp only [wr, wl] at *; omega)) (show 0 ≤ 300000 * 0 from by first | omega | (simp only [wr, wl] at *; omega)) (show 0 ≤ 300000 * 0 from by first | omega | (simp only [wr, wl] at *; omega)) (Nat.lt_succ_self _)
theorem r_run_l (hF : FS F) (hR : Rg I) {v0 v1 : Int} (hp : 0 ≤ v1 ∧ v1 ≤ 13) (hQ : ∀ (r : Int) (I' : pI), Rg I' → (∀ k j, ¬ (k = 238 ∨ (k = 235 ∧ 11 ≤ j ∧ j ≤ 18) ∨ (242 ≤ k ∧ k ≤ 244) ∨ (k = 236 ∧ 304 ≤ j ∧ j < 1228 ∧ ((j - 304) % 66 = 4 ∨ 17 ≤ (j - 304) % 66)) ∨ (k = 236 ∧ 9 ≤ j ∧ j ≤ 13)) → I' k j = I k j) → Q (some (vi r)) F I') : ∀ (m : Nat) (e i : Int) (J : pI), Rg J → (∀ k j, ¬ (k = 238 ∨ (k = 235 ∧ 11 ≤ j ∧ j ≤ 18) ∨ (242 ≤ k ∧ k ≤ 244) ∨ (k = 236 ∧ 304 ≤ j ∧ j < 1228 ∧ ((j - 304) % 66 = 4 ∨ 17 ≤ (j - 304) % 66)) ∨ (k = 236 ∧ 9 ≤ j ∧ j ≤ 13)) → J k j = I k j) → (0 : Int) ≤ i → (i : Int) ≤ 24 → (24 - i).toNat < m → GoN G (d + 1) kX12_run NP NP 49 [some (vr 235), some (vi v0), some (vi v1), some (vi e), some (vi i)] [] F J Q := by
  intro m
  induction m with
  | zero => intro e i J hJ hV _ _ h; exact absurd h (Nat.not_lt_zero _)
  | succ m ih =>
    intro e i J hJ hV c100 c101 hm
    refine GoN_in (fun hok hA => ?_)
    have iv0 : -2147483648 ≤ v0 ∧ v0 < 2147483648 := hok 1 _ rfl
    have iv1 : -2147483648 ≤ v1 ∧ v1 < 2147483648 := hok 2 _ rfl
    have ie : -2147483648 ≤ e ∧ e < 2147483648 := hok 3 _ rfl
    have ii : -2147483648 ≤ i ∧ i < 2147483648 := hok 4 _ rfl
    refine Go_wp (by decide) ckX12_run [49] ?_
    refine ⟨_, rfl, (by decide), ?_⟩
    have r1 : 0 ≤ (J 235 18) ∧ (J 235 18) ≤ 24 := Rg.f18 hJ
    have a2 : -2147483648 ≤ (J 235 18) ∧ (J 235 18) < 2147483648 := hA.1 _ _
    refine ⟨fun (c3 : (((J 235 18) : Int) ≤ i)) => ?_, fun (c3 : (¬ (((J 235 18) : Int) ≤ i))) => ?_⟩
    ·
      refine ⟨_, rfl, (by decide), ?_⟩
      refine fun w0 hw0 => ?_; obtain rfl : w0 = some 236 := hw0.symm.trans (FS.g hF rfl)
      refine ⟨_, rfl, (by decide), ?_⟩
      have n4 : (wr (66 * v1)) = 66 * v1 := wr_id (show -2147483648 ≤ (66 * v1 : Int) ∧ (66 * v1 : Int) < 2147483648 from by omega)
      have n5 : (wr (304 + (wr (66 * v1)))) = 304 + (wr (66 * v1)) := wr_id (show -2147483648 ≤ (304 + (wr (66 * v1)) : Int) ∧ (304 + (wr (66 * v1)) : Int) < 2147483648 from by omega)
      have n6 : (wr ((wr (304 + (wr (66 * v1)))) + 4)) = (wr (304 + (wr (66 * v1)))) + 4 := wr_id (show -2147483648 ≤ ((wr (304 + (wr (66 * v1)))) + 4 : Int) ∧ ((wr (304 + (wr (66 * v1)))) + 4 : Int) < 2147483648 from by omega)
      refine ⟨_, rfl, (by decide), (show (0 : Int) ≤ (wr ((wr (304 + (wr (66 * v1)))) + 4)) from by first | omega | (simp only [wr, wl] at *; omega)), (show (wr ((wr (304 + (wr (66 * v1)))) + 4)) < (1340 : Int) from by first | omega | (simp only [wr, wl] at *; omega)), ?_⟩
      have p7 : Pn (Int.toNat (wr ((wr (304 + (wr (66 * v1)))) + 4))) (J 235 18) := by unfold Pn; (repeat' split) <;> first | trivial | omega
      refine ⟨_, rfl, (by decide), ?_⟩
      refine fun w0 hw0 => ?_; obtain rfl : w0 = some 236 := hw0.symm.trans (FS.g hF rfl)
      refine ⟨_, rfl, (by decide), (by decide), (by decide), ?_⟩
      have p8 : Pn 9 1 := by unfold Pn; (repeat' split) <;> first | trivial | omega
      refine ⟨_, rfl, (by decide), ?_⟩
      refine fun w0 hw0 => ?_; obtain rfl : w0 = some 236 := hw0.symm.trans (FS.g hF rfl)
      refine ⟨_, rfl, (by decide), ?_⟩
      refine ⟨_, rfl, (by decide), (by decide), (by decide), ?_⟩
      have a9 : -2147483648 ≤ (J 235 15) ∧ (J 235 15) < 2147483648 := hA.1 _ _
      have p10 : Pn 10 (J 235 15) := by unfold Pn; (repeat' split) <;> first | trivial | omega
      refine ⟨_, rfl, (by decide), ?_⟩
      refine fun w0 hw0 => ?_; obtain rfl : w0 = some 236 := hw0.symm.trans (FS.g hF rfl)
      refine ⟨_, rfl, (by decide), ?_⟩
      have r11 : 0 ≤ (J 235 16) ∧ (J 235 16) ≤ 20000000 := Rg.f16 hJ
      refine ⟨_, rfl, (by decide), (by decide), (by decide), ?_⟩
      have a12 : -2147483648 ≤ (J 235 16) ∧ (J 235 16) < 2147483648 := hA.1 _ _
      have p13 : Pn 11 (J 235 16) := by unfold Pn; (repeat' split) <;> first | trivial | omega
      refine ⟨_, rfl, (by decide), ?_⟩
      refine fun w0 hw0 => ?_; obtain rfl : w0 = some 236 := hw0.symm.trans (FS.g hF rfl)
      refine ⟨_, rfl, (by decide), ?_⟩
      have r14 : 0 ≤ (J 235 12) ∧ (J 235 12) ≤ 20000000 := Rg.f12 hJ
      refine ⟨_, rfl, (by decide), (by decide), (by decide), ?_⟩
      have a15 : -2147483648 ≤ (J 235 12) ∧ (J 235 12) < 2147483648 := hA.1 _ _
      have p16 : Pn 12 (J 235 12) := by unfold Pn; (repeat' split) <;> first | trivial | omega
      refine ⟨_, rfl, (by decide), ?_⟩
      refine fun w0 hw0 => ?_; obtain rfl : w0 = some 236 := hw0.symm.trans (FS.g hF rfl)
      refine ⟨_, rfl, (by decide), (by decide), (by decide), ?_⟩
      have p17 : Pn 13 e := by unfold Pn; (repeat' split) <;> first | trivial | omega
      refine ⟨_, rfl, (by decide), ?_⟩
      exact ⟨rfl, hQ _ _ (Rg.u (Rg.u (Rg.u (Rg.u (Rg.u (Rg.u hJ (Pr_n (Or.inl rfl) p7)) (Pr_n (Or.inl rfl) p8)) (Pr_n (Or.inl rfl) p10)) (Pr_n (Or.inl rfl) p13)) (Pr_n (Or.inl rfl) p16)) (Pr_n (Or.inl rfl) p17)) (fun k j hk => ((uI_o (by omega))).trans (((uI_o (by omega))).trans (((uI_o (by omega))).trans (((uI_o (by omega))).trans (((uI_o (by omega))).trans (((uI_o (by omega))).trans ((hV k j (by omega)))))))))⟩
    ·
      refine ⟨_, rfl, (by decide), ?_⟩
      refine fun w0 hw0 => ?_; obtain rfl : w0 = some 243 := hw0.symm.trans (FS.g hF rfl)
      refine ⟨_, rfl, (by decide), (by first | omega | (simp only [wr, wl] at *; omega)), (by first | omega | (simp only [wr, wl] at *; omega)), ?_⟩
      refine ⟨_, rfl, (by decide), ?_⟩
      refine fun w0 hw0 => ?_; obtain rfl : w0 = some 244 := hw0.symm.trans (FS.g hF rfl)
      refine ⟨_, rfl, (by decide), (by first | omega | (simp only [wr, wl] at *; omega)), (by first | omega | (simp only [wr, wl] at *; omega)), ?_⟩
      refine ⟨⟨_, rfl, (by decide)⟩, ?_⟩
      refine Call_wp (lv := [some (vr 235), some (vi v1), some (vi i), some (vi (J 243 (Int.toNat i))), some (vi (J 244 (Int.toNat i)))]) (by decide) ckX12_read [] rfl rfl ?_
      refine ⟨_, rfl, (by decide), ?_⟩
      refine fun w0 hw0 => ?_; obtain rfl : w0 = some 236 := hw0.symm.trans (FS.g hF rfl)
      have n18 : (wr (66 * v1)) = 66 * v1 := wr_id (show -2147483648 ≤ (66 * v1 : Int) ∧ (66 * v1 : Int) < 2147483648 from by omega)
      have n19 : (wr (304 + (wr (66 * v1)))) = 304 + (wr (66 * v1)) := wr_id (show -2147483648 ≤ (304 + (wr (66 * v1)) : Int) ∧ (304 + (wr (66 * v1)) : Int) < 2147483648 from by omega)
      have n20 : (wr ((wr (304 + (wr (66 * v1)))) + 17)) = (wr (304 + (wr (66 * v1)))) + 17 := wr_id (show -2147483648 ≤ ((wr (304 + (wr (66 * v1)))) + 17 : Int) ∧ ((wr (304 + (wr (66 * v1)))) + 17 : Int) < 2147483648 from by omega)
      have n21 : (wr (2 * i)) = 2 * i := wr_id (show -2147483648 ≤ (2 * i : Int) ∧ (2 * i : Int) < 2147483648 from by omega)
      have n22 : (wr ((wr ((wr (304 + (wr (66 * v1)))) + 17)) + (wr (2 * i)))) = (wr ((wr (304 + (wr (66 * v1)))) + 17)) + (wr (2 * i)) := wr_id (show -2147483648 ≤ ((wr ((wr (304 + (wr (66 * v1)))) + 17)) + (wr (2 * i)) : Int) ∧ ((wr ((wr (304 + (wr (66 * v1)))) + 17)) + (wr (2 * i)) : Int) < 2147483648 from by omega)
      refine ⟨_, rfl, (by decide), (show (0 : Int) ≤ (wr ((wr ((wr (304 + (wr (66 * v1)))) + 17)) + (wr (2 * i)))) from by first | omega | (simp only [wr, wl] at *; omega)), (show (wr ((wr ((wr (304 + (wr (66 * v1)))) + 17)) + (wr (2 * i)))) < (1340 : Int) from by first | omega | (simp only [wr, wl] at *; omega)), ?_⟩
      have a23 : -2147483648 ≤ (J 243 (Int.toNat i)) ∧ (J 243 (Int.toNat i)) < 2147483648 := hA.1 _ _
      have p24 : Pn (Int.toNat (wr ((wr ((wr (304 + (wr (66 * v1)))) + 17)) + (wr (2 * i))))) (J 243 (Int.toNat i)) := by unfold Pn; (repeat' split) <;> first | trivial | omega
      refine ⟨_, rfl, (by decide), ?_⟩
      refine fun w0 hw0 => ?_; obtain rfl : w0 = some 236 := hw0.symm.trans (FS.g hF rfl)
      have n25 : (wr ((wr ((wr ((wr (304 + (wr (66 * v1)))) + 17)) + (wr (2 * i)))) + 1)) = (wr ((wr ((wr (304 + (wr (66 * v1)))) + 17)) + (wr (2 * i)))) + 1 := wr_id (show -2147483648 ≤ ((wr ((wr ((wr (304 + (wr (66 * v1)))) + 17)) + (wr (2 * i)))) + 1 : Int) ∧ ((wr ((wr ((wr (304 + (wr (66 * v1)))) + 17)) + (wr (2 * i)))) + 1 : Int) < 2147483648 from by omega)
      refine ⟨_, rfl, (by decide), (show (0 : Int) ≤ (wr ((wr ((wr ((wr (304 + (wr (66 * v1)))) + 17)) + (wr (2 * i)))) + 1)) from by first | omega | (simp only [wr, wl] at *; omega)), (show (wr ((wr ((wr ((wr (304 + (wr (66 * v1)))) + 17)) + (wr (2 * i)))) + 1)) < (1340 : Int) from by first | omega | (simp only [wr, wl] at *; omega)), ?_⟩
      have a26 : -2147483648 ≤ (J 244 (Int.toNat i)) ∧ (J 244 (Int.toNat i)) < 2147483648 := hA.1 _ _
      have p27 : Pn (Int.toNat (wr ((wr ((wr ((wr (304 + (wr (66 * v1)))) + 17)) + (wr (2 * i)))) + 1))) (J 244 (Int.toNat i)) := by unfold Pn; (repeat' split) <;> first | trivial | omega
      refine ⟨rfl, ?_⟩
      have n28 : (wr (i + 1)) = i + 1 := wr_id (show -2147483648 ≤ (i + 1 : Int) ∧ (i + 1 : Int) < 2147483648 from by omega)
      exact ih e (wr (i + 1)) (uI (uI J 236 (Int.toNat (wr ((wr ((wr (304 + (wr (66 * v1)))) + 17)) + (wr (2 * i))))) (J 243 (Int.toNat i))) 236 (Int.toNat (wr ((wr ((wr ((wr (304 + (wr (66 * v1)))) + 17)) + (wr (2 * i)))) + 1))) (J 244 (Int.toNat i))) (Rg.u (Rg.u hJ (Pr_n (Or.inl rfl) p24)) (Pr_n (Or.inl rfl) p27)) (fun k j hk => ((uI_o (by omega))).trans (((uI_o (by omega))).trans ((hV k j (by omega))))) (show (0 : Int) ≤ (wr (i + 1)) from by first | omega | (simp only [wr, wl] at *; omega)) (show ((wr (i + 1)) : Int) ≤ 24 from by first | omega | (simp only [wr, wl] at *; omega)) (show (24 - (wr (i + 1))).toNat < m from by omega)
theorem r_run (hF : FS F) (hR : Rg I) {v0 v1 : Int}  (hQ : ∀ (r : Int) (I' : pI), Rg I' → AR I' → iR r → (∀ k j, ¬ (k = 238 ∨ (k = 235 ∧ 11 ≤ j ∧ j ≤ 18) ∨ (242 ≤ k ∧ k ≤ 244) ∨ (k = 236 ∧ 304 ≤ j ∧ j < 1228 ∧ ((j - 304) % 66 = 4 ∨ 17 ≤ (j - 304) % 66)) ∨ (k = 236 ∧ 9 ≤ j ∧ j ≤ 13)) → I' k j = I k j) → Q (some (vi r)) F I') : CallN G (d + 7) kX12_run [vr 235, vi v0, vi v1] NP F I Q := by
  refine CallN_in (fun hok hA => CallN_out ?_)
  have iv0 : -2147483648 ≤ v0 ∧ v0 < 2147483648 := hok (vi v0) (by simp)
  have iv1 : -2147483648 ≤ v1 ∧ v1 < 2147483648 := hok (vi v1) (by simp)
  refine Call_wp (lv := [some (vr 235), some (vi v0), some (vi v1), none, none]) (by decide) ckX12_run [49] rfl rfl ?_
  refine ⟨⟨_, rfl, (by decide)⟩, ?_⟩
  refine s_X12_isProgram (fun (w1 : ((0 : Int) ≤ v0 ∧ (v0 : Int) ≤ 3)) => ?_) (fun (w1 : ¬ ((0 : Int) ≤ v0 ∧ (v0 : Int) ≤ 3)) => ?_)
  ·
    refine ⟨fun c => absurd c (show (¬ ((1 : Int) = 0)) from by decide), fun _ => ?_⟩
    refine ⟨⟨_, rfl, (by decide)⟩, ?_⟩
    have r2 : 0 ≤ (I 236 0) ∧ (I 236 0) ≤ 14 := Rg.n0 hR (Or.inl rfl)
    refine s_X12_is hF (w := 0) (by decide) (show 0 ≤ (I 236 0) ∧ (I 236 0) < 1000000 from by omega) (fun (w3 : (0 ≤ v1 ∧ v1 < (I 236 0))) => ?_) (fun (w3 : ¬ (0 ≤ v1 ∧ v1 < (I 236 0))) => ?_)
    ·
      refine ⟨fun _ => ?_, fun c => absurd c (show (¬ (1 : Int) = 0) from by decide)⟩
      refine ⟨⟨_, rfl, (by decide)⟩, ?_⟩
      refine Call_wp (lv := [some (vr 235), some (vi v0)]) (by decide) ckX12_hasProgram [] rfl rfl ?_
      refine ⟨_, rfl, (by decide), ?_⟩
      refine fun w0 hw0 => ?_; obtain rfl : w0 = some 236 := hw0.symm.trans (FS.g hF rfl)
      have n4 : (wr (36 * v0)) = 36 * v0 := wr_id (show -2147483648 ≤ (36 * v0 : Int) ∧ (36 * v0 : Int) < 2147483648 from by omega)
      have n5 : (wr (40 + (wr (36 * v0)))) = 40 + (wr (36 * v0)) := wr_id (show -2147483648 ≤ (40 + (wr (36 * v0)) : Int) ∧ (40 + (wr (36 * v0)) : Int) < 2147483648 from by omega)
      have n6 : (wr ((wr (40 + (wr (36 * v0)))) + 0)) = (wr (40 + (wr (36 * v0)))) + 0 := wr_id (show -2147483648 ≤ ((wr (40 + (wr (36 * v0)))) + 0 : Int) ∧ ((wr (40 + (wr (36 * v0)))) + 0 : Int) < 2147483648 from by omega)
      refine ⟨_, rfl, (by decide), (show (0 : Int) ≤ (wr ((wr (40 + (wr (36 * v0)))) + 0)) from by first | omega | (simp only [wr, wl] at *; omega)), (show (wr ((wr (40 + (wr (36 * v0)))) + 0)) < (1340 : Int) from by first | omega | (simp only [wr, wl] at *; omega)), ?_⟩
      have r7 : 0 ≤ (I 236 (Int.toNat (wr ((wr (40 + (wr (36 * v0)))) + 0)))) ∧ (I 236 (Int.toNat (wr ((wr (40 + (wr (36 * v0)))) + 0)))) ≤ 17 := Pn_g0 (p := (Int.toNat v0)) (by omega) (by omega) (hR.n 236 (Int.toNat (wr ((wr (40 + (wr (36 * v0)))) + 0))) (Or.inl rfl))
      have a8 : -2147483648 ≤ (I 236 (Int.toNat (wr ((wr (40 + (wr (36 * v0)))) + 0)))) ∧ (I 236 (Int.toNat (wr ((wr (40 + (wr (36 * v0)))) + 0)))) < 2147483648 := hA.1 _ _
      refine ⟨fun (c9 : (((I 236 (Int.toNat (wr ((wr (40 + (wr (36 * v0)))) + 0)))) : Int) ≤ 0)) => ?_, fun (c9 : (¬ (((I 236 (Int.toNat (wr ((wr (40 + (wr (36 * v0)))) + 0)))) : Int) ≤ 0))) => ?_⟩
      ·
        refine ⟨rfl, (by decide), ?_⟩
        refine ⟨fun c => absurd (show ((0 : Int) = 0) from by decide) c, fun _ => ?_⟩
        refine ⟨⟨_, rfl, (by decide)⟩, ?_⟩
        refine s_X12_finding hF (v := (-1000002)) (by decide) ?_
        exact ⟨rfl, fun hv hA' => hQ _ _ (Rg.u hR (Pr_f rfl)) hA' (hv _ rfl) (fun k j hk => (uI_o (by omega)))⟩
      ·
        refine ⟨rfl, (by decide), ?_⟩
        refine ⟨fun _ => ?_, fun c => absurd c (show (¬ (1 : Int) = 0) from by decide)⟩
        refine ⟨⟨_, rfl, (by decide)⟩, ?_⟩
        refine r_go hF hR (by omega) (by omega) (fun v10 I11 hR12 hA13 hr15 hW14 => ?_)
        have hr15 : -2147483648 ≤ v10 ∧ v10 < 2147483648 := hr15
        refine r_run_l hF hR (by omega) (fun r I' g1 g2 hv hA' => hQ _ _ g1 hA' (hv _ rfl) g2) _ v10 0 I11 hR12 (fun k j hk => (hW14 k j (by omega))) (show (0 : Int) ≤ 0 from by first | omega | (simp only [wr, wl] at *; omega)) (show (0 : Int) ≤ 24 from by first | omega | (simp only [wr, wl] at *; omega)) (Nat.lt_succ_self _)
    ·
      refine ⟨fun c => absurd (show ((0 : Int) = 0) from by decide) c, fun _ => ?_⟩
      refine ⟨⟨_, rfl, (by decide)⟩, ?_⟩
      refine s_X12_finding hF (v := (-1000001)) (by decide) ?_
      exact ⟨rfl, fun hv hA' => hQ _ _ (Rg.u hR (Pr_f rfl)) hA' (hv _ rfl) (fun k j hk => (uI_o (by omega)))⟩
  ·
    refine ⟨fun _ => ?_, fun c => absurd (show ((0 : Int) = 0) from by decide) c⟩
    refine ⟨⟨_, rfl, (by decide)⟩, ?_⟩
    refine s_X12_finding hF (v := (-1000001)) (by decide) ?_
    exact ⟨rfl, fun hv hA' => hQ _ _ (Rg.u hR (Pr_f rfl)) hA' (hv _ rfl) (fun k j hk => (uI_o (by omega)))⟩
theorem r_check_l (hF : FS F) (hR : Rg I) {v0 v1 : Int}  (hQ : ∀ (r : Int) (I' : pI), Rg I' → (∀ k j, ¬ (k = 238 ∨ (k = 235 ∧ 11 ≤ j ∧ j ≤ 18) ∨ (242 ≤ k ∧ k ≤ 244) ∨ (k = 236 ∧ j = 3)) → I' k j = I k j) → Q (some (vi r)) F I') : ∀ (m : Nat) (m e k : Int) (J : pI), Rg J → (∀ k j, ¬ (k = 238 ∨ (k = 235 ∧ 11 ≤ j ∧ j ≤ 18) ∨ (242 ≤ k ∧ k ≤ 244) ∨ (k = 236 ∧ j = 3)) → J k j = I k j) → (0 : Int) ≤ m → (m : Int) ≤ 48 → (0 : Int) ≤ k → (k : Int) ≤ 48 → (48 - k).toNat < m → GoN G d kX12_check NP NP 64 [some (vr 235), some (vi v0), some (vi v1), some (vi m), some (vi e), some (vi k)] [] F J Q := by
  intro m
  induction m with
  | zero => intro m e k J hJ hV _ _ _ _ h; exact absurd h (Nat.not_lt_zero _)
  | succ m ih =>
    intro m e k J hJ hV c100 c101 c102 c103 hm
    refine GoN_in (fun hok hA => ?_)
    have iv0 : -2147483648 ≤ v0 ∧ v0 < 2147483648 := hok 1 _ rfl
    have iv1 : -2147483648 ≤ v1 ∧ v1 < 2147483648 := hok 2 _ rfl
    have im : -2147483648 ≤ m ∧ m < 2147483648 := hok 3 _ rfl
    have ie : -2147483648 ≤ e ∧ e < 2147483648 := hok 4 _ rfl
    have ik : -2147483648 ≤ k ∧ k < 2147483648 := hok 5 _ rfl
    refine Go_wp (by decide) ckX12_check [64] ?_
    refine ⟨fun (c1 : ((m : Int) ≤ k)) => ?_, fun (c1 : (¬ ((m : Int) ≤ k))) => ?_⟩
    ·
      refine ⟨fun (c2 : (¬ (k : Int) = m)) => ?_, fun (c2 : ((k : Int) = m)) => ?_⟩
      ·
        exact ⟨rfl, hQ _ _ hJ (fun k j hk => (hV k j (by omega)))⟩
      ·
        refine ⟨_, rfl, (by decide), ?_⟩
        have r3 : 0 ≤ (J 235 18) ∧ (J 235 18) ≤ 24 := Rg.f18 hJ
        have a4 : -2147483648 ≤ (J 235 18) ∧ (J 235 18) < 2147483648 := hA.1 _ _
        have n5 : (wr (2 * (J 235 18))) = 2 * (J 235 18) := wr_id (show -2147483648 ≤ (2 * (J 235 18) : Int) ∧ (2 * (J 235 18) : Int) < 2147483648 from by omega)
        refine ⟨fun (c6 : (¬ (k : Int) = (wr (2 * (J 235 18))))) => ?_, fun (c6 : ((k : Int) = (wr (2 * (J 235 18))))) => ?_⟩
        ·
          exact ⟨rfl, hQ _ _ hJ (fun k j hk => (hV k j (by omega)))⟩
        ·
          exact ⟨rfl, hQ _ _ hJ (fun k j hk => (hV k j (by omega)))⟩
    ·
      refine ⟨_, rfl, (by decide), ?_⟩
      have r7 : 0 ≤ (J 235 18) ∧ (J 235 18) ≤ 24 := Rg.f18 hJ
      have a8 : -2147483648 ≤ (J 235 18) ∧ (J 235 18) < 2147483648 := hA.1 _ _
      have n9 : (wr (2 * (J 235 18))) = 2 * (J 235 18) := wr_id (show -2147483648 ≤ (2 * (J 235 18) : Int) ∧ (2 * (J 235 18) : Int) < 2147483648 from by omega)
      refine ⟨fun (c10 : (((wr (2 * (J 235 18))) : Int) ≤ k)) => ?_, fun (c10 : (¬ (((wr (2 * (J 235 18))) : Int) ≤ k))) => ?_⟩
      ·
        refine ⟨fun (c11 : (¬ (k : Int) = m)) => ?_, fun (c11 : ((k : Int) = m)) => ?_⟩
        ·
          exact ⟨rfl, hQ _ _ hJ (fun k j hk => (hV k j (by omega)))⟩
        ·
          refine ⟨_, rfl, (by decide), ?_⟩
          refine ⟨fun (c12 : (¬ (k : Int) = (wr (2 * (J 235 18))))) => ?_, fun (c12 : ((k : Int) = (wr (2 * (J 235 18))))) => ?_⟩
          ·
            exact ⟨rfl, hQ _ _ hJ (fun k j hk => (hV k j (by omega)))⟩
          ·
            exact ⟨rfl, hQ _ _ hJ (fun k j hk => (hV k j (by omega)))⟩
      ·
        refine ⟨_, rfl, (by decide), ?_⟩
        refine fun w0 hw0 => ?_; obtain rfl : w0 = some 236 := hw0.symm.trans (FS.g hF rfl)
        have n13 : (wr (1292 + k)) = 1292 + k := wr_id (show -2147483648 ≤ (1292 + k : Int) ∧ (1292 + k : Int) < 2147483648 from by omega)
        refine ⟨_, rfl, (by decide), (show (0 : Int) ≤ (wr (1292 + k)) from by first | omega | (simp only [wr, wl] at *; omega)), (show (wr (1292 + k)) < (1340 : Int) from by first | omega | (simp only [wr, wl] at *; omega)), ?_⟩
        refine ⟨(by decide), ?_⟩
        have n14 : (Int.tmod k 2) = (k : Int) % 2 := Int.tmod_eq_emod_of_nonneg (by omega)
        refine ⟨fun (c15 : (¬ ((Int.tmod k 2) : Int) = 0)) => ?_, fun (c15 : (((Int.tmod k 2) : Int) = 0)) => ?_⟩
        ·
          refine ⟨_, rfl, (by decide), ?_⟩
          refine fun w0 hw0 => ?_; obtain rfl : w0 = some 244 := hw0.symm.trans (FS.g hF rfl)
          refine ⟨(by decide), ?_⟩
          have n16 : (Int.tdiv k 2) = (k : Int) / 2 := Int.tdiv_eq_ediv_of_nonneg (by omega)
          have n17 : (wr (Int.tdiv k 2)) = (Int.tdiv k 2) := wr_id (show -2147483648 ≤ ((Int.tdiv k 2) : Int) ∧ ((Int.tdiv k 2) : Int) < 2147483648 from by omega)
          refine ⟨_, rfl, (by decide), (show (0 : Int) ≤ (wr (Int.tdiv k 2)) from by first | omega | (simp only [wr, wl] at *; omega)), (show (wr (Int.tdiv k 2)) < (24 : Int) from by first | omega | (simp only [wr, wl] at *; omega)), ?_⟩
          have a18 : -2147483648 ≤ (J 236 (Int.toNat (wr (1292 + k)))) ∧ (J 236 (Int.toNat (wr (1292 + k)))) < 2147483648 := hA.1 _ _
          have a19 : -2147483648 ≤ (J 244 (Int.toNat (wr (Int.tdiv k 2)))) ∧ (J 244 (Int.toNat (wr (Int.tdiv k 2)))) < 2147483648 := hA.1 _ _
          refine ⟨fun (c20 : (¬ ((J 236 (Int.toNat (wr (1292 + k)))) : Int) = (J 244 (Int.toNat (wr (Int.tdiv k 2)))))) => ?_, fun (c20 : (((J 236 (Int.toNat (wr (1292 + k)))) : Int) = (J 244 (Int.toNat (wr (Int.tdiv k 2)))))) => ?_⟩
          ·
            refine ⟨fun (c21 : (¬ (k : Int) = m)) => ?_, fun (c21 : ((k : Int) = m)) => ?_⟩
            ·
              exact ⟨rfl, hQ _ _ hJ (fun k j hk => (hV k j (by omega)))⟩
            ·
              refine ⟨_, rfl, (by decide), ?_⟩
              refine ⟨fun (c22 : (¬ (k : Int) = (wr (2 * (J 235 18))))) => ?_, fun (c22 : ((k : Int) = (wr (2 * (J 235 18))))) => ?_⟩
              ·
                exact ⟨rfl, hQ _ _ hJ (fun k j hk => (hV k j (by omega)))⟩
              ·
                exact ⟨rfl, hQ _ _ hJ (fun k j hk => (hV k j (by omega)))⟩
          ·
            have n23 : (wr (k + 1)) = k + 1 := wr_id (show -2147483648 ≤ (k + 1 : Int) ∧ (k + 1 : Int) < 2147483648 from by omega)
            exact ih m e (wr (k + 1)) J hJ (fun k j hk => (hV k j (by omega))) (show (0 : Int) ≤ m from by first | omega | (simp only [wr, wl] at *; omega)) (show (m : Int) ≤ 48 from by first | omega | (simp only [wr, wl] at *; omega)) (show (0 : Int) ≤ (wr (k + 1)) from by first | omega | (simp only [wr, wl] at *; omega)) (show ((wr (k + 1)) : Int) ≤ 48 from by first | omega | (simp only [wr, wl] at *; omega)) (show (48 - (wr (k + 1))).toNat < m from by omega)
        ·
          refine ⟨_, rfl, (by decide), ?_⟩
          refine fun w0 hw0 => ?_; obtain rfl : w0 = some 243 := hw0.symm.trans (FS.g hF rfl)
          refine ⟨(by decide), ?_⟩
          have n24 : (Int.tdiv k 2) = (k : Int) / 2 := Int.tdiv_eq_ediv_of_nonneg (by omega)
          have n25 : (wr (Int.tdiv k 2)) = (Int.tdiv k 2) := wr_id (show -2147483648 ≤ ((Int.tdiv k 2) : Int) ∧ ((Int.tdiv k 2) : Int) < 2147483648 from by omega)
          refine ⟨_, rfl, (by decide), (show (0 : Int) ≤ (wr (Int.tdiv k 2)) from by first | omega | (simp only [wr, wl] at *; omega)), (show (wr (Int.tdiv k 2)) < (24 : Int) from by first | omega | (simp only [wr, wl] at *; omega)), ?_⟩
          have a26 : -2147483648 ≤ (J 236 (Int.toNat (wr (1292 + k)))) ∧ (J 236 (Int.toNat (wr (1292 + k)))) < 2147483648 := hA.1 _ _
          have a27 : -2147483648 ≤ (J 243 (Int.toNat (wr (Int.tdiv k 2)))) ∧ (J 243 (Int.toNat (wr (Int.tdiv k 2)))) < 2147483648 := hA.1 _ _
          refine ⟨fun (c28 : (¬ ((J 236 (Int.toNat (wr (1292 + k)))) : Int) = (J 243 (Int.toNat (wr (Int.tdiv k 2)))))) => ?_, fun (c28 : (((J 236 (Int.toNat (wr (1292 + k)))) : Int) = (J 243 (Int.toNat (wr (Int.tdiv k 2)))))) => ?_⟩
          ·
            refine ⟨fun (c29 : (¬ (k : Int) = m)) => ?_, fun (c29 : ((k : Int) = m)) => ?_⟩
            ·
              exact ⟨rfl, hQ _ _ hJ (fun k j hk => (hV k j (by omega)))⟩
            ·
              refine ⟨_, rfl, (by decide), ?_⟩
              refine ⟨fun (c30 : (¬ (k : Int) = (wr (2 * (J 235 18))))) => ?_, fun (c30 : ((k : Int) = (wr (2 * (J 235 18))))) => ?_⟩
              ·
                exact ⟨rfl, hQ _ _ hJ (fun k j hk => (hV k j (by omega)))⟩
              ·
                exact ⟨rfl, hQ _ _ hJ (fun k j hk => (hV k j (by omega)))⟩
          ·
            have n31 : (wr (k + 1)) = k + 1 := wr_id (show -2147483648 ≤ (k + 1 : Int) ∧ (k + 1 : Int) < 2147483648 from by omega)
            exact ih m e (wr (k + 1)) J hJ (fun k j hk => (hV k j (by omega))) (show (0 : Int) ≤ m from by first | omega | (simp only [wr, wl] at *; omega)) (show (m : Int) ≤ 48 from by first | omega | (simp only [wr, wl] at *; omega)) (show (0 : Int) ≤ (wr (k + 1)) from by first | omega | (simp only [wr, wl] at *; omega)) (show ((wr (k + 1)) : Int) ≤ 48 from by first | omega | (simp only [wr, wl] at *; omega)) (show (48 - (wr (k + 1))).toNat < m from by omega)
theorem r_check (hF : FS F) (hR : Rg I) {v0 v1 : Int}  (hQ : ∀ (r : Int) (I' : pI), Rg I' → AR I' → iR r → (∀ k j, ¬ (k = 238 ∨ (k = 235 ∧ 11 ≤ j ∧ j ≤ 18) ∨ (242 ≤ k ∧ k ≤ 244) ∨ (k = 236 ∧ j = 3)) → I' k j = I k j) → Q (some (vi r)) F I') : CallN G (d + 7) kX12_check [vr 235, vi v0, vi v1] NP F I Q := by
  refine CallN_in (fun hok hA => CallN_out ?_)
  have iv0 : -2147483648 ≤ v0 ∧ v0 < 2147483648 := hok (vi v0) (by simp)
  have iv1 : -2147483648 ≤ v1 ∧ v1 < 2147483648 := hok (vi v1) (by simp)
  refine Call_wp (lv := [some (vr 235), some (vi v0), some (vi v1), none, none, none]) (by decide) ckX12_check [64] rfl rfl ?_
  refine ⟨_, rfl, (by decide), ?_⟩
  refine fun w0 hw0 => ?_; obtain rfl : w0 = some 236 := hw0.symm.trans (FS.g hF rfl)
  refine ⟨_, rfl, (by decide), (by decide), (by decide), ?_⟩
  have r1 : 0 ≤ (I 236 3) ∧ (I 236 3) ≤ 48 := Rg.n3 hR (Or.inl rfl)
  refine ⟨_, rfl, (by decide), ?_⟩
  refine fun w0 hw0 => ?_; obtain rfl : w0 = some 236 := hw0.symm.trans (FS.g hF rfl)
  refine ⟨_, rfl, (by decide), (by decide), (by decide), ?_⟩
  have p2 : Pn 3 0 := by unfold Pn; (repeat' split) <;> first | trivial | omega
  refine ⟨⟨_, rfl, (by decide)⟩, ?_⟩
  refine s_X12_isProgram (fun (w3 : ((0 : Int) ≤ v0 ∧ (v0 : Int) ≤ 3)) => ?_) (fun (w3 : ¬ ((0 : Int) ≤ v0 ∧ (v0 : Int) ≤ 3)) => ?_)
  ·
    refine ⟨fun c => absurd c (show (¬ ((1 : Int) = 0)) from by decide), fun _ => ?_⟩
    refine ⟨⟨_, rfl, (by decide)⟩, ?_⟩
    have r4 : 0 ≤ (I 236 0) ∧ (I 236 0) ≤ 14 := Rg.n0 hR (Or.inl rfl)
    refine s_X12_is hF (w := 0) (by decide) (show 0 ≤ (I 236 0) ∧ (I 236 0) < 1000000 from by omega) (fun (w5 : (0 ≤ v1 ∧ v1 < (I 236 0))) => ?_) (fun (w5 : ¬ (0 ≤ v1 ∧ v1 < (I 236 0))) => ?_)
    ·
      refine ⟨fun _ => ?_, fun c => absurd c (show (¬ (1 : Int) = 0) from by decide)⟩
      refine ⟨⟨_, rfl, (by decide)⟩, ?_⟩
      refine Call_wp (lv := [some (vr 235), some (vi v0)]) (by decide) ckX12_hasProgram [] rfl rfl ?_
      refine ⟨_, rfl, (by decide), ?_⟩
      refine fun w0 hw0 => ?_; obtain rfl : w0 = some 236 := hw0.symm.trans (FS.g hF rfl)
      have n6 : (wr (36 * v0)) = 36 * v0 := wr_id (show -2147483648 ≤ (36 * v0 : Int) ∧ (36 * v0 : Int) < 2147483648 from by omega)
      have n7 : (wr (40 + (wr (36 * v0)))) = 40 + (wr (36 * v0)) := wr_id (show -2147483648 ≤ (40 + (wr (36 * v0)) : Int) ∧ (40 + (wr (36 * v0)) : Int) < 2147483648 from by omega)
      have n8 : (wr ((wr (40 + (wr (36 * v0)))) + 0)) = (wr (40 + (wr (36 * v0)))) + 0 := wr_id (show -2147483648 ≤ ((wr (40 + (wr (36 * v0)))) + 0 : Int) ∧ ((wr (40 + (wr (36 * v0)))) + 0 : Int) < 2147483648 from by omega)
      refine ⟨_, rfl, (by decide), (show (0 : Int) ≤ (wr ((wr (40 + (wr (36 * v0)))) + 0)) from by first | omega | (simp only [wr, wl] at *; omega)), (show (wr ((wr (40 + (wr (36 * v0)))) + 0)) < (1340 : Int) from by first | omega | (simp only [wr, wl] at *; omega)), ?_⟩
      have r9 : 0 ≤ (I 236 (Int.toNat (wr ((wr (40 + (wr (36 * v0)))) + 0)))) ∧ (I 236 (Int.toNat (wr ((wr (40 + (wr (36 * v0)))) + 0)))) ≤ 17 := Pn_g0 (p := (Int.toNat v0)) (by omega) (by omega) (hR.n 236 (Int.toNat (wr ((wr (40 + (wr (36 * v0)))) + 0))) (Or.inl rfl))
      have u10 : ((uI I 236 3 0) 236 (Int.toNat (wr ((wr (40 + (wr (36 * v0)))) + 0)))) = (I 236 (Int.toNat (wr ((wr (40 + (wr (36 * v0)))) + 0)))) := uJ_ne (by omega)
      have a11 : -2147483648 ≤ (I 236 (Int.toNat (wr ((wr (40 + (wr (36 * v0)))) + 0)))) ∧ (I 236 (Int.toNat (wr ((wr (40 + (wr (36 * v0)))) + 0)))) < 2147483648 := hA.1 _ _
      refine ⟨fun (c12 : ((((uI I 236 3 0) 236 (Int.toNat (wr ((wr (40 + (wr (36 * v0)))) + 0)))) : Int) ≤ 0)) => ?_, fun (c12 : (¬ ((((uI I 236 3 0) 236 (Int.toNat (wr ((wr (40 + (wr (36 * v0)))) + 0)))) : Int) ≤ 0))) => ?_⟩
      ·
        refine ⟨rfl, (by decide), ?_⟩
        refine ⟨fun c => absurd (show ((0 : Int) = 0) from by decide) c, fun _ => ?_⟩
        refine ⟨⟨_, rfl, (by decide)⟩, ?_⟩
        refine s_X12_finding hF (v := (-1000002)) (by decide) ?_
        exact ⟨rfl, fun hv hA' => hQ _ _ (Rg.u (Rg.u hR (Pr_n (Or.inl rfl) p2)) (Pr_f rfl)) hA' (hv _ rfl) (fun k j hk => ((uI_o (by omega))).trans ((uI_o (by omega))))⟩
      ·
        refine ⟨rfl, (by decide), ?_⟩
        refine ⟨fun _ => ?_, fun c => absurd c (show (¬ (1 : Int) = 0) from by decide)⟩
        refine ⟨⟨_, rfl, (by decide)⟩, ?_⟩
        refine r_go hF (Rg.u hR (Pr_n (Or.inl rfl) p2)) (by omega) (by omega) (fun v13 I14 hR15 hA16 hr18 hW17 => ?_)
        have hr18 : -2147483648 ≤ v13 ∧ v13 < 2147483648 := hr18
        have a19 : -2147483648 ≤ (I 236 3) ∧ (I 236 3) < 2147483648 := hA.1 _ _
        refine r_check_l hF hR  (fun r I' g1 g2 hv hA' => hQ _ _ g1 hA' (hv _ rfl) g2) _ (I 236 3) v13 0 I14 hR15 (fun k j hk => ((hW17 k j (by omega))).trans ((uI_o (by omega)))) (show (0 : Int) ≤ (I 236 3) from by first | omega | (simp only [wr, wl] at *; omega)) (show ((I 236 3) : Int) ≤ 48 from by first | omega | (simp only [wr, wl] at *; omega)) (show (0 : Int) ≤ 0 from by first | omega | (simp only [wr, wl] at *; omega)) (show (0 : Int) ≤ 48 from by first | omega | (simp only [wr, wl] at *; omega)) (Nat.lt_succ_self _)
    ·
      refine ⟨fun c => absurd (show ((0 : Int) = 0) from by decide) c, fun _ => ?_⟩
      refine ⟨⟨_, rfl, (by decide)⟩, ?_⟩
      refine s_X12_finding hF (v := (-1000001)) (by decide) ?_
      exact ⟨rfl, fun hv hA' => hQ _ _ (Rg.u (Rg.u hR (Pr_n (Or.inl rfl) p2)) (Pr_f rfl)) hA' (hv _ rfl) (fun k j hk => ((uI_o (by omega))).trans ((uI_o (by omega))))⟩
  ·
    refine ⟨fun _ => ?_, fun c => absurd (show ((0 : Int) = 0) from by decide) c⟩
    refine ⟨⟨_, rfl, (by decide)⟩, ?_⟩
    refine s_X12_finding hF (v := (-1000001)) (by decide) ?_
    exact ⟨rfl, fun hv hA' => hQ _ _ (Rg.u (Rg.u hR (Pr_n (Or.inl rfl) p2)) (Pr_f rfl)) hA' (hv _ rfl) (fun k j hk => ((uI_o (by omega))).trans ((uI_o (by omega))))⟩
theorem r_ran (hF : FS F) (hR : Rg I) {v0 : Int}  (hQ : ∀ (r : Int) (I' : pI), Rg I' → AR I' → iR r → (∀ k j, ¬ (k = 238) → I' k j = I k j) → Q (some (vi r)) F I') : CallN G (d + 1) kX12_ran [vr 235, vi v0] NP F I Q := by
  refine CallN_in (fun hok hA => CallN_out ?_)
  have iv0 : -2147483648 ≤ v0 ∧ v0 < 2147483648 := hok (vi v0) (by simp)
  refine Call_wp (lv := [some (vr 235), some (vi v0)]) (by decide) ckX12_ran [] rfl rfl ?_
  refine s_X12_within (fun (w1 : ((0 : Int) ≤ v0 ∧ (v0 : Int) ≤ 3)) => ?_) (fun (w1 : ¬ ((0 : Int) ≤ v0 ∧ (v0 : Int) ≤ 3)) => ?_)
  ·
    refine ⟨fun _ => ?_, fun c => absurd c (show (¬ (1 : Int) = 0) from by decide)⟩
    refine ⟨_, rfl, (by decide), ?_⟩
    refine fun w0 hw0 => ?_; obtain rfl : w0 = some 236 := hw0.symm.trans (FS.g hF rfl)
    refine ⟨_, rfl, (by decide), (by decide), (by decide), ?_⟩
    have a2 : -2147483648 ≤ (I 236 9) ∧ (I 236 9) < 2147483648 := hA.1 _ _
    refine ⟨fun (c3 : (¬ ((I 236 9) : Int) = 0)) => ?_, fun (c3 : (((I 236 9) : Int) = 0)) => ?_⟩
    ·
      refine ⟨_, rfl, (by decide), ?_⟩
      refine fun w0 hw0 => ?_; obtain rfl : w0 = some 236 := hw0.symm.trans (FS.g hF rfl)
      have n4 : (wr (10 + v0)) = 10 + v0 := wr_id (show -2147483648 ≤ (10 + v0 : Int) ∧ (10 + v0 : Int) < 2147483648 from by omega)
      refine ⟨_, rfl, (by decide), (show (0 : Int) ≤ (wr (10 + v0)) from by first | omega | (simp only [wr, wl] at *; omega)), (show (wr (10 + v0)) < (1340 : Int) from by first | omega | (simp only [wr, wl] at *; omega)), ?_⟩
      exact ⟨rfl, fun hv hA' => hQ _ _ hR hA' (hv _ rfl) (fun _ _ _ => rfl)⟩
    ·
      refine ⟨⟨_, rfl, (by decide)⟩, ?_⟩
      refine s_X12_finding hF (v := (-1000002)) (by decide) ?_
      exact ⟨rfl, fun hv hA' => hQ _ _ (Rg.u hR (Pr_f rfl)) hA' (hv _ rfl) (fun k j hk => (uI_o (by omega)))⟩
  ·
    refine ⟨fun c => absurd (show ((0 : Int) = 0) from by decide) c, fun _ => ?_⟩
    refine ⟨⟨_, rfl, (by decide)⟩, ?_⟩
    refine s_X12_finding hF (v := (-1000001)) (by decide) ?_
    exact ⟨rfl, fun hv hA' => hQ _ _ (Rg.u hR (Pr_f rfl)) hA' (hv _ rfl) (fun k j hk => (uI_o (by omega)))⟩
end RN
