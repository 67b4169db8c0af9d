/-! tell, check: how many wait. Own work (scripts laid by wip/pm/gen34.py). -/
section TL
variable {G : pG} {d : Nat} {F : pF} {I : pI} {Q : Option pV → pF → pI → Prop}
theorem c_tell2 (hF : FS F) (hR : Rg I) {v0 : Int}  (hQ : ∀ (r : Int) (I' : pI), Rg I' → AR I' → iR r → (∀ k j, ¬ (k = 203 ∨ k = 19 ∨ (k = 1 ∧ (j = 11))) → I' k j = I k j) → (0 ≤ (I 1 11) ∧ (I 1 11) < 48 → r = (I 1 11) + 1 ∧ (I' 1 11) = (I 1 11) + 1) → (¬ (0 ≤ (I 1 11) ∧ (I 1 11) < 48) → r = -1000004 ∧ (I' 1 11) = (I 1 11)) → Q (some (vi r)) F I') : CallN G (d + 2) kX11_tell [vr 0, vi v0] NP F I Q := by
  refine CallN_in (fun hok hA => CallN_out ?_)
  have iv0 : -2147483648 ≤ v0 ∧ v0 < 2147483648 := hok (vi v0) (by simp)
  refine Call_wp (lv := [some (vr 0), some (vi v0)]) (by decide) ckX11_tell [] rfl rfl ?_
  refine ⟨_, rfl, (by decide), ?_⟩
  refine fun w0 hw0 => ?_; obtain rfl : w0 = some 1 := hw0.symm.trans (FS.g hF rfl)
  refine ⟨⟨_, rfl, (by decide)⟩, ?_⟩
  refine Call_wp (lv := [some (vr 1), some (vi v0)]) (by decide) ckX8_addWaiting [] rfl rfl ?_
  refine ⟨_, rfl, (by decide), ?_⟩
  have a1 : -2147483648 ≤ (I 1 11) ∧ (I 1 11) < 2147483648 := hA.1 _ _
  refine ⟨fun (c2 : (((I 1 11) : Int) < 0)) => ?_, fun (c2 : (¬ (((I 1 11) : Int) < 0))) => ?_⟩
  ·
    refine ⟨rfl, (by decide), ?_⟩
    refine ⟨fun _ => ?_, fun c => absurd (show ((0 : Int) = 0) from by decide) c⟩
    refine ⟨⟨_, rfl, (by decide)⟩, ?_⟩
    refine s_X11_refuse hF (e := 4) (by decide) ?_
    exact ⟨rfl, fun hv hA' => hQ _ _ (Rg.u hR (Pr_f rfl)) hA' (hv _ rfl) (fun ka ja hk => (uI_o (show ¬ (ka = 203 ∧ ja = 4) from by omega))) (show 0 ≤ (I 1 11) ∧ (I 1 11) < 48 → (-1000004) = (I 1 11) + 1 ∧ (I 1 11) = (I 1 11) + 1 from by first | omega | (simp only [wr, wl] at *; omega)) (show ¬ (0 ≤ (I 1 11) ∧ (I 1 11) < 48) → (-1000004) = -1000004 ∧ (I 1 11) = (I 1 11) from by first | omega | (simp only [wr, wl] at *; omega))⟩
  ·
    refine ⟨_, rfl, (by decide), ?_⟩
    refine ⟨fun (c3 : (((I 1 11) : Int) < 48)) => ?_, fun (c3 : (¬ (((I 1 11) : Int) < 48))) => ?_⟩
    ·
      refine ⟨_, rfl, (by decide), ?_⟩
      refine fun w0 hw0 => ?_; obtain rfl : w0 = some 19 := hw0.symm.trans (FS.g hF rfl)
      refine ⟨_, rfl, (by decide), ?_⟩
      refine ⟨_, rfl, (by decide), (show (0 : Int) ≤ (I 1 11) from by first | omega | (simp only [wr, wl] at *; omega)), (show (I 1 11) < (48 : Int) from by first | omega | (simp only [wr, wl] at *; omega)), ?_⟩
      refine ⟨_, rfl, (by decide), ?_⟩
      refine ⟨_, rfl, (by decide), ?_⟩
      refine ⟨rfl, (by decide), ?_⟩
      refine ⟨fun c => absurd c (show (¬ ((1 : Int) = 0)) from by decide), fun _ => ?_⟩
      refine ⟨_, rfl, (by decide), ?_⟩
      refine fun w0 hw0 => ?_; obtain rfl : w0 = some 1 := hw0.symm.trans (FS.g hF rfl)
      refine ⟨_, rfl, (by decide), ?_⟩
      have n4 : (wr ((I 1 11) + 1)) = (I 1 11) + 1 := wr_id (show -2147483648 ≤ ((I 1 11) + 1 : Int) ∧ ((I 1 11) + 1 : Int) < 2147483648 from by omega)
      exact ⟨rfl, fun hv hA' => hQ _ _ (Rg.u (Rg.u hR (Pr_p (k := 19) rfl _ _)) (Pr_f rfl)) hA' (hv _ rfl) (fun ka ja hk => ((uI_o (show ¬ (ka = 1 ∧ ja = 11) from by omega))).trans ((uI_o (show ¬ (ka = 19 ∧ ja = (Int.toNat (I 1 11))) from by omega)))) (show 0 ≤ (I 1 11) ∧ (I 1 11) < 48 → (wr ((I 1 11) + 1)) = (I 1 11) + 1 ∧ (wr ((I 1 11) + 1)) = (I 1 11) + 1 from by first | omega | (simp only [wr, wl] at *; omega)) (show ¬ (0 ≤ (I 1 11) ∧ (I 1 11) < 48) → (wr ((I 1 11) + 1)) = -1000004 ∧ (wr ((I 1 11) + 1)) = (I 1 11) from by first | omega | (simp only [wr, wl] at *; omega))⟩
    ·
      refine ⟨rfl, (by decide), ?_⟩
      refine ⟨fun _ => ?_, fun c => absurd (show ((0 : Int) = 0) from by decide) c⟩
      refine ⟨⟨_, rfl, (by decide)⟩, ?_⟩
      refine s_X11_refuse hF (e := 4) (by decide) ?_
      exact ⟨rfl, fun hv hA' => hQ _ _ (Rg.u hR (Pr_f rfl)) hA' (hv _ rfl) (fun ka ja hk => (uI_o (show ¬ (ka = 203 ∧ ja = 4) from by omega))) (show 0 ≤ (I 1 11) ∧ (I 1 11) < 48 → (-1000004) = (I 1 11) + 1 ∧ (I 1 11) = (I 1 11) + 1 from by first | omega | (simp only [wr, wl] at *; omega)) (show ¬ (0 ≤ (I 1 11) ∧ (I 1 11) < 48) → (-1000004) = -1000004 ∧ (I 1 11) = (I 1 11) from by first | omega | (simp only [wr, wl] at *; omega))⟩
theorem r_tell2 (hF : FS F) (hR : Rg I) {v0 : Int}  (hQ : ∀ (r : Int) (I' : pI), Rg I' → AR I' → iR r → (∀ k j, ¬ (k = 238 ∨ (k = 236 ∧ (j = 3 ∨ (1292 ≤ j ∧ j < 1340)))) → I' k j = I k j) → ((I 236 3) < 48 → r = (I 236 3) + 1 ∧ (I' 236 3) = (I 236 3) + 1) → (¬ (I 236 3) < 48 → r = -1000004 ∧ (I' 236 3) = (I 236 3)) → Q (some (vi r)) F I') : CallN G (d + 1) kX12_tell [vr 235, vi v0] NP F I Q := by
  refine CallN_in (fun hok hA => CallN_out ?_)
  have iv0 : -2147483648 ≤ v0 ∧ v0 < 2147483648 := hok (vi v0) (by simp)
  refine Call_wp (lv := [some (vr 235), some (vi v0)]) (by decide) ckX12_tell [] rfl rfl ?_
  refine ⟨_, rfl, (by decide), ?_⟩
  refine fun w0 hw0 => ?_; obtain rfl : w0 = some 236 := hw0.symm.trans (FS.g hF rfl)
  refine ⟨_, rfl, (by decide), (by decide), (by decide), ?_⟩
  have r1 : 0 ≤ (I 236 3) ∧ (I 236 3) ≤ 48 := Rg.n3 hR
  have a2 : -2147483648 ≤ (I 236 3) ∧ (I 236 3) < 2147483648 := hA.1 _ _
  refine ⟨fun (c3 : (¬ ((I 236 3) : Int) = 48)) => ?_, fun (c3 : (((I 236 3) : Int) = 48)) => ?_⟩
  ·
    refine ⟨_, rfl, (by decide), ?_⟩
    refine fun w0 hw0 => ?_; obtain rfl : w0 = some 236 := hw0.symm.trans (FS.g hF rfl)
    refine ⟨_, rfl, (by decide), ?_⟩
    refine fun w0 hw0 => ?_; obtain rfl : w0 = some 236 := hw0.symm.trans (FS.g hF rfl)
    refine ⟨_, rfl, (by decide), (by decide), (by decide), ?_⟩
    have n4 : (wr (1292 + (I 236 3))) = 1292 + (I 236 3) := wr_id (show -2147483648 ≤ (1292 + (I 236 3) : Int) ∧ (1292 + (I 236 3) : Int) < 2147483648 from by omega)
    refine ⟨_, rfl, (by decide), (show (0 : Int) ≤ (wr (1292 + (I 236 3))) from by first | omega | (simp only [wr, wl] at *; omega)), (show (wr (1292 + (I 236 3))) < (1340 : Int) from by first | omega | (simp only [wr, wl] at *; omega)), ?_⟩
    have p5 : Pn (Int.toNat (wr (1292 + (I 236 3)))) v0 := by apply Pn_w <;> omega
    refine ⟨_, rfl, (by decide), ?_⟩
    refine fun w0 hw0 => ?_; obtain rfl : w0 = some 236 := hw0.symm.trans (FS.g hF rfl)
    refine ⟨_, rfl, (by decide), (by decide), (by decide), ?_⟩
    have u6 : ((uI I 236 (Int.toNat (wr (1292 + (I 236 3)))) v0) 236 3) = (I 236 3) := uJ_ne (by omega)
    refine ⟨_, rfl, (by decide), (by decide), (by decide), ?_⟩
    have n7 : (wr (((uI I 236 (Int.toNat (wr (1292 + (I 236 3)))) v0) 236 3) + 1)) = ((uI I 236 (Int.toNat (wr (1292 + (I 236 3)))) v0) 236 3) + 1 := wr_id (show -2147483648 ≤ (((uI I 236 (Int.toNat (wr (1292 + (I 236 3)))) v0) 236 3) + 1 : Int) ∧ (((uI I 236 (Int.toNat (wr (1292 + (I 236 3)))) v0) 236 3) + 1 : Int) < 2147483648 from by omega)
    have p8 : Pn 3 (wr (((uI I 236 (Int.toNat (wr (1292 + (I 236 3)))) v0) 236 3) + 1)) := by apply Pn_w <;> omega
    refine ⟨_, rfl, (by decide), ?_⟩
    refine fun w0 hw0 => ?_; obtain rfl : w0 = some 236 := hw0.symm.trans (FS.g hF rfl)
    refine ⟨_, rfl, (by decide), (by decide), (by decide), ?_⟩
    exact ⟨rfl, fun hv hA' => hQ _ _ (Rg.u (Rg.u hR (Pr_n p5)) (Pr_n p8)) hA' (hv _ rfl) (fun ka ja hk => ((uI_o (show ¬ (ka = 236 ∧ ja = 3) from by omega))).trans ((uI_o (show ¬ (ka = 236 ∧ ja = (Int.toNat (wr (1292 + (I 236 3))))) from by omega)))) (show (I 236 3) < 48 → (wr (((uI I 236 (Int.toNat (wr (1292 + (I 236 3)))) v0) 236 3) + 1)) = (I 236 3) + 1 ∧ (wr (((uI I 236 (Int.toNat (wr (1292 + (I 236 3)))) v0) 236 3) + 1)) = (I 236 3) + 1 from by first | omega | (simp only [wr, wl] at *; omega)) (show ¬ (I 236 3) < 48 → (wr (((uI I 236 (Int.toNat (wr (1292 + (I 236 3)))) v0) 236 3) + 1)) = -1000004 ∧ (wr (((uI I 236 (Int.toNat (wr (1292 + (I 236 3)))) v0) 236 3) + 1)) = (I 236 3) from by first | omega | (simp only [wr, wl] at *; omega))⟩
  ·
    refine ⟨⟨_, rfl, (by decide)⟩, ?_⟩
    refine s_X12_finding hF (v := (-1000004)) (by decide) ?_
    exact ⟨rfl, fun hv hA' => hQ _ _ (Rg.u hR (Pr_f rfl)) hA' (hv _ rfl) (fun ka ja hk => (uI_o (show ¬ (ka = 238 ∧ ja = 4) from by omega))) (show (I 236 3) < 48 → (-1000004) = (I 236 3) + 1 ∧ (I 236 3) = (I 236 3) + 1 from by first | omega | (simp only [wr, wl] at *; omega)) (show ¬ (I 236 3) < 48 → (-1000004) = -1000004 ∧ (I 236 3) = (I 236 3) from by first | omega | (simp only [wr, wl] at *; omega))⟩
theorem c_check2 (hF : FS F) (hR : Rg I) {v0 v1 : Int}  (hQ : ∀ (r : Int) (F' : pF) (I' : pI), FS F' → Rg I' → AR I' → iR r → (∀ k j, ¬ (k = 203 ∨ (208 ≤ k ∧ k < 218) ∨ (k = 1 ∧ (j = 11))) → I' k j = I k j) → ((I' 1 11) = 0) → Q (some (vi r)) F' I') : CallN G (d + 7) kX11_check [vr 0, vi v0, vi v1] NP F I Q := by
  refine CallN_in (fun hok hA => CallN_out ?_)
  have iv0 : -2147483648 ≤ v0 ∧ v0 < 2147483648 := hok (vi v0) (by simp)
  have iv1 : -2147483648 ≤ v1 ∧ v1 < 2147483648 := hok (vi v1) (by simp)
  refine Call_wp (lv := [some (vr 0), some (vi v0), some (vi v1), none, none, none]) (by decide) ckX11_check [] rfl rfl ?_
  refine ⟨_, rfl, (by decide), ?_⟩
  refine fun w0 hw0 => ?_; obtain rfl : w0 = some 1 := hw0.symm.trans (FS.g hF rfl)
  refine ⟨_, rfl, (by decide), ?_⟩
  refine ⟨_, rfl, (by decide), ?_⟩
  refine fun w0 hw0 => ?_; obtain rfl : w0 = some 1 := hw0.symm.trans (FS.g hF rfl)
  refine ⟨_, rfl, (by decide), ?_⟩
  refine ⟨_, rfl, (by decide), ?_⟩
  refine fun w0 hw0 => ?_; obtain rfl : w0 = some 1 := hw0.symm.trans (FS.g hF rfl)
  refine ⟨⟨_, rfl, (by decide)⟩, ?_⟩
  refine s_X8_programAt hF (S := 1) (Or.inl rfl) (fun (w1 : (0 ≤ v0 ∧ v0 < 4)) => ?_) (fun (w1 : ¬ (0 ≤ v0 ∧ v0 < 4)) => ?_)
  ·
    have hp2 : GP F (1 + 89 + 3 * Int.toNat v0) := GP_of hF (by omega)
    refine ⟨_, rfl, (by decide), ?_⟩
    refine fun w0 hw0 => ?_; obtain rfl : w0 = some 1 := hw0.symm.trans (FS.g hF rfl)
    refine ⟨⟨_, rfl, (by decide)⟩, ?_⟩
    refine s_X8_pieceAt hF (S := 1) (Or.inl rfl) (fun (w3 : (0 ≤ v1 ∧ v1 < (I 1 1) ∧ v1 < 14)) => ?_) (fun (w3 : ¬ (0 ≤ v1 ∧ v1 < (I 1 1) ∧ v1 < 14)) => ?_)
    ·
      have hp4 : PP F (1 + 19 + 5 * Int.toNat v1) := PP_of hF (by omega)
      refine ⟨_, hp2.1.1, (by have := hp2.2; show _ < 254; omega), ?_⟩
      have r5 : 0 ≤ (I (1 + 89 + 3 * Int.toNat v0) 0) ∧ (I (1 + 89 + 3 * Int.toNat v0) 0) ≤ 1 := hR.b hp2.1.1 (by have := hp2.2; omega) ⟨by decide, by decide⟩
      have u6 : ((uI I 1 11 0) (1 + 89 + 3 * Int.toNat v0) 0) = (I (1 + 89 + 3 * Int.toNat v0) 0) := uI_o (fun e => absurd e.1 (lay_ne hp2.1.1 (show lay 1 = (8, 12) from rfl) (by decide)))
      have a7 : -2147483648 ≤ (I (1 + 89 + 3 * Int.toNat v0) 0) ∧ (I (1 + 89 + 3 * Int.toNat v0) 0) < 2147483648 := hA.1 _ _
      refine ⟨fun (c8 : (¬ (((uI I 1 11 0) (1 + 89 + 3 * Int.toNat v0) 0) : Int) = 0)) => ?_, fun (c8 : ((((uI I 1 11 0) (1 + 89 + 3 * Int.toNat v0) 0) : Int) = 0)) => ?_⟩
      ·
        refine ⟨_, rfl, (by decide), ?_⟩
        refine fun w0 hw0 => ?_; obtain rfl : w0 = some 208 := hw0.symm.trans (FS.g hF rfl)
        refine ⟨_, rfl, (by decide), ?_⟩
        refine fun w0 hw0 => ?_; obtain rfl : w0 = some 1 := hw0.symm.trans (FS.g hF rfl)
        refine ⟨⟨_, rfl, (by decide)⟩, ?_⟩
        refine c_perf  hF (Rg.u hR (Pr_f rfl)) hp4 hp2 (by omega) (fun I9 hR10 hA11 hW12 => ?_)
        refine ⟨_, rfl, (by decide), ?_⟩
        refine fun w0 hw0 => ?_; obtain rfl : w0 = some 208 := hw0.symm.trans (FS.g (FS.u hF rfl) rfl)
        refine ⟨_, rfl, (by decide), ?_⟩
        refine fun w0 hw0 => ?_; obtain rfl : w0 = some 210 := hw0.symm.trans (FS.g (FS.u hF rfl) rfl)
        refine ⟨⟨_, rfl, (by decide)⟩, ?_⟩
        have a13 : -2147483648 ≤ (I 1 11) ∧ (I 1 11) < 2147483648 := hA.1 _ _
        refine c_unlike  (FS.u hF rfl) hR10 (fun vr14 hr15 => ?_)
        have hr15 : -2147483648 ≤ vr14 ∧ vr14 < 2147483648 := hr15
        have u16 : (I9 1 11) = ((uI I 1 11 0) 1 11) := hW12 _ _ (by first | omega | decide)
        have u17 : ((uI I 1 11 0) 1 11) = 0 := rfl
        have a18 : -2147483648 ≤ (I9 1 11) ∧ (I9 1 11) < 2147483648 := hA11.1 _ _
        exact ⟨rfl, fun hv hA' => hQ _ _ _ (FS.u hF rfl) hR10 hA' (hv _ rfl) (fun ka ja hk => ((hW12 ka ja (by omega))).trans ((uI_o (show ¬ (ka = 1 ∧ ja = 11) from by omega)))) (show (I9 1 11) = 0 from by first | omega | (simp only [wr, wl] at *; omega))⟩
      ·
        refine ⟨⟨_, rfl, (by decide)⟩, ?_⟩
        refine s_X11_refuse hF (e := 2) (by decide) ?_
        exact ⟨rfl, fun hv hA' => hQ _ _ _ hF (Rg.u (Rg.u hR (Pr_f rfl)) (Pr_f rfl)) hA' (hv _ rfl) (fun ka ja hk => ((uI_o (show ¬ (ka = 203 ∧ ja = 2) from by omega))).trans ((uI_o (show ¬ (ka = 1 ∧ ja = 11) from by omega)))) (show 0 = 0 from by first | omega | (simp only [wr, wl] at *; omega))⟩
    ·
      refine ⟨⟨_, rfl, (by decide)⟩, ?_⟩
      refine s_X11_refuse hF (e := 1) (by decide) ?_
      exact ⟨rfl, fun hv hA' => hQ _ _ _ hF (Rg.u (Rg.u hR (Pr_f rfl)) (Pr_f rfl)) hA' (hv _ rfl) (fun ka ja hk => ((uI_o (show ¬ (ka = 203 ∧ ja = 1) from by omega))).trans ((uI_o (show ¬ (ka = 1 ∧ ja = 11) from by omega)))) (show 0 = 0 from by first | omega | (simp only [wr, wl] at *; omega))⟩
  ·
    refine ⟨_, rfl, (by decide), ?_⟩
    refine fun w0 hw0 => ?_; obtain rfl : w0 = some 1 := hw0.symm.trans (FS.g hF rfl)
    refine ⟨⟨_, rfl, (by decide)⟩, ?_⟩
    refine s_X8_pieceAt hF (S := 1) (Or.inl rfl) (fun (w19 : (0 ≤ v1 ∧ v1 < (I 1 1) ∧ v1 < 14)) => ?_) (fun (w19 : ¬ (0 ≤ v1 ∧ v1 < (I 1 1) ∧ v1 < 14)) => ?_)
    ·
      have hp20 : PP F (1 + 19 + 5 * Int.toNat v1) := PP_of hF (by omega)
      refine ⟨⟨_, rfl, (by decide)⟩, ?_⟩
      refine s_X11_refuse hF (e := 1) (by decide) ?_
      exact ⟨rfl, fun hv hA' => hQ _ _ _ hF (Rg.u (Rg.u hR (Pr_f rfl)) (Pr_f rfl)) hA' (hv _ rfl) (fun ka ja hk => ((uI_o (show ¬ (ka = 203 ∧ ja = 1) from by omega))).trans ((uI_o (show ¬ (ka = 1 ∧ ja = 11) from by omega)))) (show 0 = 0 from by first | omega | (simp only [wr, wl] at *; omega))⟩
    ·
      refine ⟨⟨_, rfl, (by decide)⟩, ?_⟩
      refine s_X11_refuse hF (e := 1) (by decide) ?_
      exact ⟨rfl, fun hv hA' => hQ _ _ _ hF (Rg.u (Rg.u hR (Pr_f rfl)) (Pr_f rfl)) hA' (hv _ rfl) (fun ka ja hk => ((uI_o (show ¬ (ka = 203 ∧ ja = 1) from by omega))).trans ((uI_o (show ¬ (ka = 1 ∧ ja = 11) from by omega)))) (show 0 = 0 from by first | omega | (simp only [wr, wl] at *; omega))⟩
theorem r_check2_l (hF : FS F) (hR : Rg I) {v0 v1 : Int}  (hQ : ∀ (r : Int) (I' : pI), Rg I' → (∀ k j, ¬ (k = 238 ∨ (k = 235 ∧ 11 ≤ j ∧ j ≤ 18) ∨ (242 ≤ k ∧ k ≤ 244) ∨ (k = 236 ∧ j = 3)) → I' k j = I k j) → ((I' 236 3) = 0) → Q (some (vi r)) F I') : ∀ (mz : Nat) (m e k : Int) (J : pI), Rg J → (∀ k j, ¬ (k = 238 ∨ (k = 235 ∧ 11 ≤ j ∧ j ≤ 18) ∨ (242 ≤ k ∧ k ≤ 244) ∨ (k = 236 ∧ j = 3)) → J k j = I k j) → ((0 : Int) ≤ m) → ((m : Int) ≤ 48) → ((0 : Int) ≤ k) → ((k : Int) ≤ 48) → ((J 236 3) = 0) → (48 - k).toNat < mz → GoN G d kX12_check NP NP 64 [some (vr 235), some (vi v0), some (vi v1), some (vi m), some (vi e), some (vi k)] [] F J Q := by
  intro mz
  induction mz with
  | zero => intro m e k J hJ hV _ _ _ _ _ h; exact absurd h (Nat.not_lt_zero _)
  | succ mz ih =>
    intro m e k J hJ hV c100 c101 c102 c103 c104 hm
    refine GoN_in (fun hok hA => ?_)
    have iiv0 : -2147483648 ≤ v0 ∧ v0 < 2147483648 := hok 1 _ rfl
    have iiv1 : -2147483648 ≤ v1 ∧ v1 < 2147483648 := hok 2 _ rfl
    have iim : -2147483648 ≤ m ∧ m < 2147483648 := hok 3 _ rfl
    have iie : -2147483648 ≤ e ∧ e < 2147483648 := hok 4 _ rfl
    have iik : -2147483648 ≤ k ∧ k < 2147483648 := hok 5 _ rfl
    have r1 : 0 ≤ (J 236 3) ∧ (J 236 3) ≤ 48 := Rg.n3 hJ
    have a2 : -2147483648 ≤ (J 236 3) ∧ (J 236 3) < 2147483648 := hA.1 _ _
    refine Go_wp (by decide) ckX12_check [64] ?_
    refine ⟨fun (c3 : ((m : Int) ≤ k)) => ?_, fun (c3 : (¬ ((m : Int) ≤ k))) => ?_⟩
    ·
      refine ⟨fun (c4 : (¬ (k : Int) = m)) => ?_, fun (c4 : ((k : Int) = m)) => ?_⟩
      ·
        have n5 : (wr (1 + k)) = 1 + k := wr_id (show -2147483648 ≤ (1 + k : Int) ∧ (1 + k : Int) < 2147483648 from by omega)
        exact ⟨rfl, hQ _ _ hJ (fun ka ja hk => (hV ka ja (by omega))) (show (J 236 3) = 0 from by first | omega | (simp only [wr, wl] at *; omega))⟩
      ·
        refine ⟨_, rfl, (by decide), ?_⟩
        have r6 : 0 ≤ (J 235 18) ∧ (J 235 18) ≤ 24 := Rg.f18 hJ
        have a7 : -2147483648 ≤ (J 235 18) ∧ (J 235 18) < 2147483648 := hA.1 _ _
        have n8 : (wr (2 * (J 235 18))) = 2 * (J 235 18) := wr_id (show -2147483648 ≤ (2 * (J 235 18) : Int) ∧ (2 * (J 235 18) : Int) < 2147483648 from by omega)
        refine ⟨fun (c9 : (¬ (k : Int) = (wr (2 * (J 235 18))))) => ?_, fun (c9 : ((k : Int) = (wr (2 * (J 235 18))))) => ?_⟩
        ·
          have n10 : (wr (1 + k)) = 1 + k := wr_id (show -2147483648 ≤ (1 + k : Int) ∧ (1 + k : Int) < 2147483648 from by omega)
          exact ⟨rfl, hQ _ _ hJ (fun ka ja hk => (hV ka ja (by omega))) (show (J 236 3) = 0 from by first | omega | (simp only [wr, wl] at *; omega))⟩
        ·
          exact ⟨rfl, hQ _ _ hJ (fun ka ja hk => (hV ka ja (by omega))) (show (J 236 3) = 0 from by first | omega | (simp only [wr, wl] at *; omega))⟩
    ·
      refine ⟨_, rfl, (by decide), ?_⟩
      have r11 : 0 ≤ (J 235 18) ∧ (J 235 18) ≤ 24 := Rg.f18 hJ
      have a12 : -2147483648 ≤ (J 235 18) ∧ (J 235 18) < 2147483648 := hA.1 _ _
      have n13 : (wr (2 * (J 235 18))) = 2 * (J 235 18) := wr_id (show -2147483648 ≤ (2 * (J 235 18) : Int) ∧ (2 * (J 235 18) : Int) < 2147483648 from by omega)
      refine ⟨fun (c14 : (((wr (2 * (J 235 18))) : Int) ≤ k)) => ?_, fun (c14 : (¬ (((wr (2 * (J 235 18))) : Int) ≤ k))) => ?_⟩
      ·
        refine ⟨fun (c15 : (¬ (k : Int) = m)) => ?_, fun (c15 : ((k : Int) = m)) => ?_⟩
        ·
          have n16 : (wr (1 + k)) = 1 + k := wr_id (show -2147483648 ≤ (1 + k : Int) ∧ (1 + k : Int) < 2147483648 from by omega)
          exact ⟨rfl, hQ _ _ hJ (fun ka ja hk => (hV ka ja (by omega))) (show (J 236 3) = 0 from by first | omega | (simp only [wr, wl] at *; omega))⟩
        ·
          refine ⟨_, rfl, (by decide), ?_⟩
          refine ⟨fun (c17 : (¬ (k : Int) = (wr (2 * (J 235 18))))) => ?_, fun (c17 : ((k : Int) = (wr (2 * (J 235 18))))) => ?_⟩
          ·
            have n18 : (wr (1 + k)) = 1 + k := wr_id (show -2147483648 ≤ (1 + k : Int) ∧ (1 + k : Int) < 2147483648 from by omega)
            exact ⟨rfl, hQ _ _ hJ (fun ka ja hk => (hV ka ja (by omega))) (show (J 236 3) = 0 from by first | omega | (simp only [wr, wl] at *; omega))⟩
          ·
            exact ⟨rfl, hQ _ _ hJ (fun ka ja hk => (hV ka ja (by omega))) (show (J 236 3) = 0 from by first | omega | (simp only [wr, wl] at *; omega))⟩
      ·
        refine ⟨_, rfl, (by decide), ?_⟩
        refine fun w0 hw0 => ?_; obtain rfl : w0 = some 236 := hw0.symm.trans (FS.g hF rfl)
        have n19 : (wr (1292 + k)) = 1292 + k := wr_id (show -2147483648 ≤ (1292 + k : Int) ∧ (1292 + k : Int) < 2147483648 from by omega)
        refine ⟨_, rfl, (by decide), (show (0 : Int) ≤ (wr (1292 + k)) from by first | omega | (simp only [wr, wl] at *; omega)), (show (wr (1292 + k)) < (1340 : Int) from by first | omega | (simp only [wr, wl] at *; omega)), ?_⟩
        refine ⟨(by decide), ?_⟩
        have n20 : (Int.tmod k 2) = (k : Int) % 2 := Int.tmod_eq_emod_of_nonneg (by omega)
        refine ⟨fun (c21 : (¬ ((Int.tmod k 2) : Int) = 0)) => ?_, fun (c21 : (((Int.tmod k 2) : Int) = 0)) => ?_⟩
        ·
          refine ⟨_, rfl, (by decide), ?_⟩
          refine fun w0 hw0 => ?_; obtain rfl : w0 = some 244 := hw0.symm.trans (FS.g hF rfl)
          refine ⟨(by decide), ?_⟩
          have n22 : (Int.tdiv k 2) = (k : Int) / 2 := Int.tdiv_eq_ediv_of_nonneg (by omega)
          have n23 : (wr (Int.tdiv k 2)) = (Int.tdiv k 2) := wr_id (show -2147483648 ≤ ((Int.tdiv k 2) : Int) ∧ ((Int.tdiv k 2) : Int) < 2147483648 from by omega)
          refine ⟨_, rfl, (by decide), (show (0 : Int) ≤ (wr (Int.tdiv k 2)) from by first | omega | (simp only [wr, wl] at *; omega)), (show (wr (Int.tdiv k 2)) < (24 : Int) from by first | omega | (simp only [wr, wl] at *; omega)), ?_⟩
          have a24 : -2147483648 ≤ (J 236 (Int.toNat (wr (1292 + k)))) ∧ (J 236 (Int.toNat (wr (1292 + k)))) < 2147483648 := hA.1 _ _
          have a25 : -2147483648 ≤ (J 244 (Int.toNat (wr (Int.tdiv k 2)))) ∧ (J 244 (Int.toNat (wr (Int.tdiv k 2)))) < 2147483648 := hA.1 _ _
          refine ⟨fun (c26 : (¬ ((J 236 (Int.toNat (wr (1292 + k)))) : Int) = (J 244 (Int.toNat (wr (Int.tdiv k 2)))))) => ?_, fun (c26 : (((J 236 (Int.toNat (wr (1292 + k)))) : Int) = (J 244 (Int.toNat (wr (Int.tdiv k 2)))))) => ?_⟩
          ·
            refine ⟨fun (c27 : (¬ (k : Int) = m)) => ?_, fun (c27 : ((k : Int) = m)) => ?_⟩
            ·
              have n28 : (wr (1 + k)) = 1 + k := wr_id (show -2147483648 ≤ (1 + k : Int) ∧ (1 + k : Int) < 2147483648 from by omega)
              exact ⟨rfl, hQ _ _ hJ (fun ka ja hk => (hV ka ja (by omega))) (show (J 236 3) = 0 from by first | omega | (simp only [wr, wl] at *; omega))⟩
            ·
              refine ⟨_, rfl, (by decide), ?_⟩
              refine ⟨fun (c29 : (¬ (k : Int) = (wr (2 * (J 235 18))))) => ?_, fun (c29 : ((k : Int) = (wr (2 * (J 235 18))))) => ?_⟩
              ·
                have n30 : (wr (1 + k)) = 1 + k := wr_id (show -2147483648 ≤ (1 + k : Int) ∧ (1 + k : Int) < 2147483648 from by omega)
                exact ⟨rfl, hQ _ _ hJ (fun ka ja hk => (hV ka ja (by omega))) (show (J 236 3) = 0 from by first | omega | (simp only [wr, wl] at *; omega))⟩
              ·
                exact ⟨rfl, hQ _ _ hJ (fun ka ja hk => (hV ka ja (by omega))) (show (J 236 3) = 0 from by first | omega | (simp only [wr, wl] at *; omega))⟩
          ·
            have n31 : (wr (k + 1)) = k + 1 := wr_id (show -2147483648 ≤ (k + 1 : Int) ∧ (k + 1 : Int) < 2147483648 from by omega)
            exact ih m e (wr (k + 1)) J hJ (fun ka ja hk => (hV ka ja (by omega))) (show (0 : Int) ≤ m from by first | omega | (simp only [wr, wl] at *; omega)) (show (m : Int) ≤ 48 from by first | omega | (simp only [wr, wl] at *; omega)) (show (0 : Int) ≤ (wr (k + 1)) from by first | omega | (simp only [wr, wl] at *; omega)) (show ((wr (k + 1)) : Int) ≤ 48 from by first | omega | (simp only [wr, wl] at *; omega)) (show (J 236 3) = 0 from by first | omega | (simp only [wr, wl] at *; omega)) (show (48 - (wr (k + 1))).toNat < mz from by omega)
        ·
          refine ⟨_, rfl, (by decide), ?_⟩
          refine fun w0 hw0 => ?_; obtain rfl : w0 = some 243 := hw0.symm.trans (FS.g hF rfl)
          refine ⟨(by decide), ?_⟩
          have n32 : (Int.tdiv k 2) = (k : Int) / 2 := Int.tdiv_eq_ediv_of_nonneg (by omega)
          have n33 : (wr (Int.tdiv k 2)) = (Int.tdiv k 2) := wr_id (show -2147483648 ≤ ((Int.tdiv k 2) : Int) ∧ ((Int.tdiv k 2) : Int) < 2147483648 from by omega)
          refine ⟨_, rfl, (by decide), (show (0 : Int) ≤ (wr (Int.tdiv k 2)) from by first | omega | (simp only [wr, wl] at *; omega)), (show (wr (Int.tdiv k 2)) < (24 : Int) from by first | omega | (simp only [wr, wl] at *; omega)), ?_⟩
          have a34 : -2147483648 ≤ (J 236 (Int.toNat (wr (1292 + k)))) ∧ (J 236 (Int.toNat (wr (1292 + k)))) < 2147483648 := hA.1 _ _
          have a35 : -2147483648 ≤ (J 243 (Int.toNat (wr (Int.tdiv k 2)))) ∧ (J 243 (Int.toNat (wr (Int.tdiv k 2)))) < 2147483648 := hA.1 _ _
          refine ⟨fun (c36 : (¬ ((J 236 (Int.toNat (wr (1292 + k)))) : Int) = (J 243 (Int.toNat (wr (Int.tdiv k 2)))))) => ?_, fun (c36 : (((J 236 (Int.toNat (wr (1292 + k)))) : Int) = (J 243 (Int.toNat (wr (Int.tdiv k 2)))))) => ?_⟩
          ·
            refine ⟨fun (c37 : (¬ (k : Int) = m)) => ?_, fun (c37 : ((k : Int) = m)) => ?_⟩
            ·
              have n38 : (wr (1 + k)) = 1 + k := wr_id (show -2147483648 ≤ (1 + k : Int) ∧ (1 + k : Int) < 2147483648 from by omega)
              exact ⟨rfl, hQ _ _ hJ (fun ka ja hk => (hV ka ja (by omega))) (show (J 236 3) = 0 from by first | omega | (simp only [wr, wl] at *; omega))⟩
            ·
              refine ⟨_, rfl, (by decide), ?_⟩
              refine ⟨fun (c39 : (¬ (k : Int) = (wr (2 * (J 235 18))))) => ?_, fun (c39 : ((k : Int) = (wr (2 * (J 235 18))))) => ?_⟩
              ·
                have n40 : (wr (1 + k)) = 1 + k := wr_id (show -2147483648 ≤ (1 + k : Int) ∧ (1 + k : Int) < 2147483648 from by omega)
                exact ⟨rfl, hQ _ _ hJ (fun ka ja hk => (hV ka ja (by omega))) (show (J 236 3) = 0 from by first | omega | (simp only [wr, wl] at *; omega))⟩
              ·
                exact ⟨rfl, hQ _ _ hJ (fun ka ja hk => (hV ka ja (by omega))) (show (J 236 3) = 0 from by first | omega | (simp only [wr, wl] at *; omega))⟩
          ·
            have n41 : (wr (k + 1)) = k + 1 := wr_id (show -2147483648 ≤ (k + 1 : Int) ∧ (k + 1 : Int) < 2147483648 from by omega)
            exact ih m e (wr (k + 1)) J hJ (fun ka ja hk => (hV ka ja (by omega))) (show (0 : Int) ≤ m from by first | omega | (simp only [wr, wl] at *; omega)) (show (m : Int) ≤ 48 from by first | omega | (simp only [wr, wl] at *; omega)) (show (0 : Int) ≤ (wr (k + 1)) from by first | omega | (simp only [wr, wl] at *; omega)) (show ((wr (k + 1)) : Int) ≤ 48 from by first | omega | (simp only [wr, wl] at *; omega)) (show (J 236 3) = 0 from by first | omega | (simp only [wr, wl] at *; omega)) (show (48 - (wr (k + 1))).toNat < mz from by omega)
theorem r_check2 (hF : FS F) (hR : Rg I) {v0 v1 : Int}  (hQ : ∀ (r : Int) (I' : pI), Rg I' → AR I' → iR r → (∀ k j, ¬ (k = 238 ∨ (k = 235 ∧ 11 ≤ j ∧ j ≤ 18) ∨ (242 ≤ k ∧ k ≤ 244) ∨ (k = 236 ∧ j = 3)) → I' k j = I k j) → ((I' 236 3) = 0) → Q (some (vi r)) F I') : CallN G (d + 7) kX12_check [vr 235, vi v0, vi v1] NP F I Q := by
  refine CallN_in (fun hok hA => CallN_out ?_)
  have iv0 : -2147483648 ≤ v0 ∧ v0 < 2147483648 := hok (vi v0) (by simp)
  have iv1 : -2147483648 ≤ v1 ∧ v1 < 2147483648 := hok (vi v1) (by simp)
  refine Call_wp (lv := [some (vr 235), some (vi v0), some (vi v1), none, none, none]) (by decide) ckX12_check [64] rfl rfl ?_
  refine ⟨_, rfl, (by decide), ?_⟩
  refine fun w0 hw0 => ?_; obtain rfl : w0 = some 236 := hw0.symm.trans (FS.g hF rfl)
  refine ⟨_, rfl, (by decide), (by decide), (by decide), ?_⟩
  have r1 : 0 ≤ (I 236 3) ∧ (I 236 3) ≤ 48 := Rg.n3 hR
  refine ⟨_, rfl, (by decide), ?_⟩
  refine fun w0 hw0 => ?_; obtain rfl : w0 = some 236 := hw0.symm.trans (FS.g hF rfl)
  refine ⟨_, rfl, (by decide), (by decide), (by decide), ?_⟩
  have p2 : Pn 3 0 := by apply Pn_w <;> omega
  refine ⟨⟨_, rfl, (by decide)⟩, ?_⟩
  refine s_X12_isProgram (fun (w3 : ((0 : Int) ≤ v0 ∧ (v0 : Int) ≤ 3)) => ?_) (fun (w3 : ¬ ((0 : Int) ≤ v0 ∧ (v0 : Int) ≤ 3)) => ?_)
  ·
    refine ⟨fun c => absurd c (show (¬ ((1 : Int) = 0)) from by decide), fun _ => ?_⟩
    refine ⟨⟨_, rfl, (by decide)⟩, ?_⟩
    have r4 : 0 ≤ (I 236 0) ∧ (I 236 0) ≤ 14 := Rg.n0 hR
    refine s_X12_is hF (w := 0) (by decide) (show 0 ≤ (I 236 0) ∧ (I 236 0) < 1000000 from by omega) (fun (w5 : (0 ≤ v1 ∧ v1 < (I 236 0))) => ?_) (fun (w5 : ¬ (0 ≤ v1 ∧ v1 < (I 236 0))) => ?_)
    ·
      refine ⟨fun _ => ?_, fun c => absurd c (show (¬ (1 : Int) = 0) from by decide)⟩
      refine ⟨⟨_, rfl, (by decide)⟩, ?_⟩
      refine Call_wp (lv := [some (vr 235), some (vi v0)]) (by decide) ckX12_hasProgram [] rfl rfl ?_
      refine ⟨_, rfl, (by decide), ?_⟩
      refine fun w0 hw0 => ?_; obtain rfl : w0 = some 236 := hw0.symm.trans (FS.g hF rfl)
      have n6 : (wr (36 * v0)) = 36 * v0 := wr_id (show -2147483648 ≤ (36 * v0 : Int) ∧ (36 * v0 : Int) < 2147483648 from by omega)
      have n7 : (wr (40 + (wr (36 * v0)))) = 40 + (wr (36 * v0)) := wr_id (show -2147483648 ≤ (40 + (wr (36 * v0)) : Int) ∧ (40 + (wr (36 * v0)) : Int) < 2147483648 from by omega)
      have n8 : (wr ((wr (40 + (wr (36 * v0)))) + 0)) = (wr (40 + (wr (36 * v0)))) + 0 := wr_id (show -2147483648 ≤ ((wr (40 + (wr (36 * v0)))) + 0 : Int) ∧ ((wr (40 + (wr (36 * v0)))) + 0 : Int) < 2147483648 from by omega)
      refine ⟨_, rfl, (by decide), (show (0 : Int) ≤ (wr ((wr (40 + (wr (36 * v0)))) + 0)) from by first | omega | (simp only [wr, wl] at *; omega)), (show (wr ((wr (40 + (wr (36 * v0)))) + 0)) < (1340 : Int) from by first | omega | (simp only [wr, wl] at *; omega)), ?_⟩
      have r9 : 0 ≤ (I 236 (Int.toNat (wr ((wr (40 + (wr (36 * v0)))) + 0)))) ∧ (I 236 (Int.toNat (wr ((wr (40 + (wr (36 * v0)))) + 0)))) ≤ 17 := Pn_g0 (p := (Int.toNat v0)) (by omega) (by omega) (hR.n (Int.toNat (wr ((wr (40 + (wr (36 * v0)))) + 0))) (by omega))
      have u10 : ((uI I 236 3 0) 236 (Int.toNat (wr ((wr (40 + (wr (36 * v0)))) + 0)))) = (I 236 (Int.toNat (wr ((wr (40 + (wr (36 * v0)))) + 0)))) := uJ_ne (by omega)
      have a11 : -2147483648 ≤ (I 236 (Int.toNat (wr ((wr (40 + (wr (36 * v0)))) + 0)))) ∧ (I 236 (Int.toNat (wr ((wr (40 + (wr (36 * v0)))) + 0)))) < 2147483648 := hA.1 _ _
      refine ⟨fun (c12 : ((((uI I 236 3 0) 236 (Int.toNat (wr ((wr (40 + (wr (36 * v0)))) + 0)))) : Int) ≤ 0)) => ?_, fun (c12 : (¬ ((((uI I 236 3 0) 236 (Int.toNat (wr ((wr (40 + (wr (36 * v0)))) + 0)))) : Int) ≤ 0))) => ?_⟩
      ·
        refine ⟨rfl, (by decide), ?_⟩
        refine ⟨fun c => absurd (show ((0 : Int) = 0) from by decide) c, fun _ => ?_⟩
        refine ⟨⟨_, rfl, (by decide)⟩, ?_⟩
        refine s_X12_finding hF (v := (-1000002)) (by decide) ?_
        exact ⟨rfl, fun hv hA' => hQ _ _ (Rg.u (Rg.u hR (Pr_n p2)) (Pr_f rfl)) hA' (hv _ rfl) (fun ka ja hk => ((uI_o (show ¬ (ka = 238 ∧ ja = 2) from by omega))).trans ((uI_o (show ¬ (ka = 236 ∧ ja = 3) from by omega)))) (show 0 = 0 from by first | omega | (simp only [wr, wl] at *; omega))⟩
      ·
        refine ⟨rfl, (by decide), ?_⟩
        refine ⟨fun _ => ?_, fun c => absurd c (show (¬ (1 : Int) = 0) from by decide)⟩
        refine ⟨⟨_, rfl, (by decide)⟩, ?_⟩
        refine r_go (v0 := v0) (v1 := v1) hF (Rg.u hR (Pr_n p2)) (by omega) (by omega) (fun vr13 I14 hR15 hA16 hr18 hW17 => ?_)
        have hr18 : -2147483648 ≤ vr13 ∧ vr13 < 2147483648 := hr18
        have a19 : -2147483648 ≤ (I 236 3) ∧ (I 236 3) < 2147483648 := hA.1 _ _
        have u20 : (I14 236 3) = ((uI I 236 3 0) 236 3) := hW17 _ _ (by first | omega | decide)
        have u21 : ((uI I 236 3 0) 236 3) = 0 := rfl
        have a22 : -2147483648 ≤ (I14 236 3) ∧ (I14 236 3) < 2147483648 := hA16.1 _ _
        have r23 : 0 ≤ (I14 236 3) ∧ (I14 236 3) ≤ 48 := Rg.n3 hR15
        refine r_check2_l hF hR  (fun r I' g1 g2 g3 hv hA' => hQ _ _ g1 hA' (hv _ rfl) g2 g3) _ (I 236 3) vr13 0 I14 hR15 (fun ka ja hk => ((hW17 ka ja (by omega))).trans ((uI_o (show ¬ (ka = 236 ∧ ja = 3) from by omega)))) (show (0 : Int) ≤ (I 236 3) from by first | omega | (simp only [wr, wl] at *; omega)) (show ((I 236 3) : Int) ≤ 48 from by first | omega | (simp only [wr, wl] at *; omega)) (show (0 : Int) ≤ (0 : Int) from by first | omega | (simp only [wr, wl] at *; omega)) (show ((0 : Int) : Int) ≤ 48 from by first | omega | (simp only [wr, wl] at *; omega)) (show (I14 236 3) = 0 from by first | omega | (simp only [wr, wl] at *; omega)) (Nat.lt_succ_self _)
    ·
      refine ⟨fun c => absurd (show ((0 : Int) = 0) from by decide) c, fun _ => ?_⟩
      refine ⟨⟨_, rfl, (by decide)⟩, ?_⟩
      refine s_X12_finding hF (v := (-1000001)) (by decide) ?_
      exact ⟨rfl, fun hv hA' => hQ _ _ (Rg.u (Rg.u hR (Pr_n p2)) (Pr_f rfl)) hA' (hv _ rfl) (fun ka ja hk => ((uI_o (show ¬ (ka = 238 ∧ ja = 1) from by omega))).trans ((uI_o (show ¬ (ka = 236 ∧ ja = 3) from by omega)))) (show 0 = 0 from by first | omega | (simp only [wr, wl] at *; omega))⟩
  ·
    refine ⟨fun _ => ?_, fun c => absurd (show ((0 : Int) = 0) from by decide) c⟩
    refine ⟨⟨_, rfl, (by decide)⟩, ?_⟩
    refine s_X12_finding hF (v := (-1000001)) (by decide) ?_
    exact ⟨rfl, fun hv hA' => hQ _ _ (Rg.u (Rg.u hR (Pr_n p2)) (Pr_f rfl)) hA' (hv _ rfl) (fun ka ja hk => ((uI_o (show ¬ (ka = 238 ∧ ja = 1) from by omega))).trans ((uI_o (show ¬ (ka = 236 ∧ ja = 3) from by omega)))) (show 0 = 0 from by first | omega | (simp only [wr, wl] at *; omega))⟩
end TL
