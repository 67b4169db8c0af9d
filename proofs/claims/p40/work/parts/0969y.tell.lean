/-! what tell writes. Own work (scripts laid by wip/pm/gen34.py). -/
section TL10
variable {G : pG} {d : Nat} {F : pF} {I : pI} {Q : Option pV → pF → pI → Prop}
theorem c_tell10 (hF : FS F) (hR : Rg I) {v0 : Int} (h11 : 0 ≤ I 1 11) (hQ : ∀ (r : Int) (I' : pI), Rg I' → AR I' → iR r → (∀ k j, ¬ (k = 203 ∨ k = 19 ∨ (k = 1 ∧ (j = 11))) → I' k j = I k j) → ((48 ≤ I 1 11 → r = -1000004 ∧ I' 1 11 = I 1 11 ∧ ∀ j : Nat, j < 48 → I' 19 j = I 19 j) ∧ (I 1 11 < 48 → r = I 1 11 + 1 ∧ I' 1 11 = I 1 11 + 1 ∧ ∀ j : Nat, j < 48 → ((j : Int) = I 1 11 → I' 19 j = v0) ∧ (¬ (j : Int) = I 1 11 → I' 19 j = I 19 j))) → Q (some (vi r)) F I') : CallN G (d + 2) kX11_tell [vr 0, vi v0] NP F I Q := by
  refine CallN_in (fun hok hA => CallN_out ?_)
  have iv0 : -2147483648 ≤ v0 ∧ v0 < 2147483648 := hok (vi v0) (by simp)
  refine Call_wp (lv := [some (vr 0), some (vi v0)]) (by decide) ckX11_tell [] rfl rfl ?_
  refine ⟨_, rfl, (by decide), ?_⟩
  refine fun w0 hw0 => ?_; obtain rfl : w0 = some 1 := hw0.symm.trans (FS.g hF rfl)
  refine ⟨⟨_, rfl, (by decide)⟩, ?_⟩
  refine Call_wp (lv := [some (vr 1), some (vi v0)]) (by decide) ckX8_addWaiting [] rfl rfl ?_
  refine ⟨_, rfl, (by decide), ?_⟩
  have a1 : -2147483648 ≤ (I 1 11) ∧ (I 1 11) < 2147483648 := hA.1 _ _
  refine ⟨fun (c2 : (((I 1 11) : Int) < 0)) => ?_, fun (c2 : (¬ (((I 1 11) : Int) < 0))) => ?_⟩
  ·
    refine ⟨rfl, (by decide), ?_⟩
    refine ⟨fun _ => ?_, fun c => absurd (show ((0 : Int) = 0) from by decide) c⟩
    refine ⟨⟨_, rfl, (by decide)⟩, ?_⟩
    refine s_X11_refuse hF (e := 4) (by decide) ?_
    exact ⟨rfl, fun hv hA' => hQ _ _ (Rg.u hR (Pr_f rfl)) hA' (hv _ rfl) (fun ka ja hk => (uI_o (show ¬ (ka = 203 ∧ ja = 4) from by omega))) (show (48 ≤ I 1 11 → (-1000004) = -1000004 ∧ (uI I 203 4 (wr ((I 203 4) + 1))) 1 11 = I 1 11 ∧ ∀ j : Nat, j < 48 → (uI I 203 4 (wr ((I 203 4) + 1))) 19 j = I 19 j) ∧ (I 1 11 < 48 → (-1000004) = I 1 11 + 1 ∧ (uI I 203 4 (wr ((I 203 4) + 1))) 1 11 = I 1 11 + 1 ∧ ∀ j : Nat, j < 48 → ((j : Int) = I 1 11 → (uI I 203 4 (wr ((I 203 4) + 1))) 19 j = v0) ∧ (¬ (j : Int) = I 1 11 → (uI I 203 4 (wr ((I 203 4) + 1))) 19 j = I 19 j)) from ⟨fun _ => ⟨rfl, uI_o (show ¬ (1 = 203 ∧ 11 = 4) from fun e => absurd e.1 (by decide)), fun j hj => uI_o (show ¬ (19 = 203 ∧ j = 4) from fun e => absurd e.1 (by decide))⟩, fun z => absurd z (by omega)⟩)⟩
  ·
    refine ⟨_, rfl, (by decide), ?_⟩
    refine ⟨fun (c3 : (((I 1 11) : Int) < 48)) => ?_, fun (c3 : (¬ (((I 1 11) : Int) < 48))) => ?_⟩
    ·
      refine ⟨_, rfl, (by decide), ?_⟩
      refine fun w0 hw0 => ?_; obtain rfl : w0 = some 19 := hw0.symm.trans (FS.g hF rfl)
      refine ⟨_, rfl, (by decide), ?_⟩
      refine ⟨_, rfl, (by decide), (show (0 : Int) ≤ (I 1 11) from by first | with_reducible assumption | omega | (simp only [wr, wl] at *; omega)), (show (I 1 11) < (48 : Int) from by first | with_reducible assumption | omega | (simp only [wr, wl] at *; omega)), ?_⟩
      refine ⟨_, rfl, (by decide), ?_⟩
      refine ⟨_, rfl, (by decide), ?_⟩
      refine ⟨rfl, (by decide), ?_⟩
      refine ⟨fun c => absurd c (show (¬ ((1 : Int) = 0)) from by decide), fun _ => ?_⟩
      refine ⟨_, rfl, (by decide), ?_⟩
      refine fun w0 hw0 => ?_; obtain rfl : w0 = some 1 := hw0.symm.trans (FS.g hF rfl)
      refine ⟨_, rfl, (by decide), ?_⟩
      have n4 : (wr ((I 1 11) + 1)) = (I 1 11) + 1 := wr_id (show -2147483648 ≤ ((I 1 11) + 1 : Int) ∧ ((I 1 11) + 1 : Int) < 2147483648 from by omega)
      have hnn : (uI (uI I 19 (Int.toNat (I 1 11)) v0) 1 11 (wr ((I 1 11) + 1))) 1 11 = (wr ((I 1 11) + 1)) := uJ_eqj (show 11 = 11 from by omega)
      exact ⟨rfl, fun hv hA' => hQ _ _ (Rg.u (Rg.u hR (Pr_p (k := 19) rfl _ _)) (Pr_f rfl)) hA' (hv _ rfl) (fun ka ja hk => ((uI_o (show ¬ (ka = 1 ∧ ja = 11) from by omega))).trans ((uI_o (show ¬ (ka = 19 ∧ ja = (Int.toNat (I 1 11))) from by omega)))) (show (48 ≤ I 1 11 → (wr ((I 1 11) + 1)) = -1000004 ∧ (uI (uI I 19 (Int.toNat (I 1 11)) v0) 1 11 (wr ((I 1 11) + 1))) 1 11 = I 1 11 ∧ ∀ j : Nat, j < 48 → (uI (uI I 19 (Int.toNat (I 1 11)) v0) 1 11 (wr ((I 1 11) + 1))) 19 j = I 19 j) ∧ (I 1 11 < 48 → (wr ((I 1 11) + 1)) = I 1 11 + 1 ∧ (uI (uI I 19 (Int.toNat (I 1 11)) v0) 1 11 (wr ((I 1 11) + 1))) 1 11 = I 1 11 + 1 ∧ ∀ j : Nat, j < 48 → ((j : Int) = I 1 11 → (uI (uI I 19 (Int.toNat (I 1 11)) v0) 1 11 (wr ((I 1 11) + 1))) 19 j = v0) ∧ (¬ (j : Int) = I 1 11 → (uI (uI I 19 (Int.toNat (I 1 11)) v0) 1 11 (wr ((I 1 11) + 1))) 19 j = I 19 j)) from ⟨fun z => absurd z (by omega), fun _ => ⟨(by omega), (by omega), fun j hj => ⟨fun e => (uI_o (show ¬ (19 = 1 ∧ j = 11) from fun e => absurd e.1 (by decide))).trans (uJ_eqj (show j = (Int.toNat (I 1 11)) from by omega)), fun e => (uI_o (show ¬ (19 = 1 ∧ j = 11) from fun e => absurd e.1 (by decide))).trans (uJ_ne (show ¬ j = (Int.toNat (I 1 11)) from by omega))⟩⟩⟩)⟩
    ·
      refine ⟨rfl, (by decide), ?_⟩
      refine ⟨fun _ => ?_, fun c => absurd (show ((0 : Int) = 0) from by decide) c⟩
      refine ⟨⟨_, rfl, (by decide)⟩, ?_⟩
      refine s_X11_refuse hF (e := 4) (by decide) ?_
      exact ⟨rfl, fun hv hA' => hQ _ _ (Rg.u hR (Pr_f rfl)) hA' (hv _ rfl) (fun ka ja hk => (uI_o (show ¬ (ka = 203 ∧ ja = 4) from by omega))) (show (48 ≤ I 1 11 → (-1000004) = -1000004 ∧ (uI I 203 4 (wr ((I 203 4) + 1))) 1 11 = I 1 11 ∧ ∀ j : Nat, j < 48 → (uI I 203 4 (wr ((I 203 4) + 1))) 19 j = I 19 j) ∧ (I 1 11 < 48 → (-1000004) = I 1 11 + 1 ∧ (uI I 203 4 (wr ((I 203 4) + 1))) 1 11 = I 1 11 + 1 ∧ ∀ j : Nat, j < 48 → ((j : Int) = I 1 11 → (uI I 203 4 (wr ((I 203 4) + 1))) 19 j = v0) ∧ (¬ (j : Int) = I 1 11 → (uI I 203 4 (wr ((I 203 4) + 1))) 19 j = I 19 j)) from ⟨fun _ => ⟨rfl, uI_o (show ¬ (1 = 203 ∧ 11 = 4) from fun e => absurd e.1 (by decide)), fun j hj => uI_o (show ¬ (19 = 203 ∧ j = 4) from fun e => absurd e.1 (by decide))⟩, fun z => absurd z (by omega)⟩)⟩
theorem r_tell10 (hF : FS F) (hR : Rg I) {v0 : Int}  (hQ : ∀ (r : Int) (I' : pI), Rg I' → AR I' → iR r → (∀ k j, ¬ (k = 238 ∨ (k = 236 ∧ (j = 3 ∨ (1292 ≤ j ∧ j < 1340)))) → I' k j = I k j) → ((48 ≤ I 236 3 → r = -1000004 ∧ I' 236 3 = I 236 3 ∧ ∀ j : Nat, j < 48 → I' 236 (1292 + j) = I 236 (1292 + j)) ∧ (I 236 3 < 48 → r = I 236 3 + 1 ∧ I' 236 3 = I 236 3 + 1 ∧ ∀ j : Nat, j < 48 → ((j : Int) = I 236 3 → I' 236 (1292 + j) = v0) ∧ (¬ (j : Int) = I 236 3 → I' 236 (1292 + j) = I 236 (1292 + j)))) → Q (some (vi r)) F I') : CallN G (d + 1) kX12_tell [vr 235, vi v0] NP F I Q := by
  refine CallN_in (fun hok hA => CallN_out ?_)
  have iv0 : -2147483648 ≤ v0 ∧ v0 < 2147483648 := hok (vi v0) (by simp)
  refine Call_wp (lv := [some (vr 235), some (vi v0)]) (by decide) ckX12_tell [] rfl rfl ?_
  refine ⟨_, rfl, (by decide), ?_⟩
  refine fun w0 hw0 => ?_; obtain rfl : w0 = some 236 := hw0.symm.trans (FS.g hF rfl)
  refine ⟨_, rfl, (by decide), (by decide), (by decide), ?_⟩
  have r1 : 0 ≤ (I 236 3) ∧ (I 236 3) ≤ 48 := Rg.n3 hR
  refine ⟨fun (c3 : (¬ ((I 236 3) : Int) = 48)) => ?_, fun (c3 : (((I 236 3) : Int) = 48)) => ?_⟩
  ·
    refine ⟨_, rfl, (by decide), ?_⟩
    refine fun w0 hw0 => ?_; obtain rfl : w0 = some 236 := hw0.symm.trans (FS.g hF rfl)
    refine ⟨_, rfl, (by decide), ?_⟩
    refine fun w0 hw0 => ?_; obtain rfl : w0 = some 236 := hw0.symm.trans (FS.g hF rfl)
    refine ⟨_, rfl, (by decide), (by decide), (by decide), ?_⟩
    have n4 : (wr (1292 + (I 236 3))) = 1292 + (I 236 3) := wr_id (show -2147483648 ≤ (1292 + (I 236 3) : Int) ∧ (1292 + (I 236 3) : Int) < 2147483648 from by omega)
    refine ⟨_, rfl, (by decide), (show (0 : Int) ≤ (wr (1292 + (I 236 3))) from by first | with_reducible assumption | omega | (simp only [wr, wl] at *; omega)), (show (wr (1292 + (I 236 3))) < (1340 : Int) from by first | with_reducible assumption | omega | (simp only [wr, wl] at *; omega)), ?_⟩
    have p5 : Pn (Int.toNat (wr (1292 + (I 236 3)))) v0 := by apply Pn_w <;> omega
    refine ⟨_, rfl, (by decide), ?_⟩
    refine fun w0 hw0 => ?_; obtain rfl : w0 = some 236 := hw0.symm.trans (FS.g hF rfl)
    refine ⟨_, rfl, (by decide), (by decide), (by decide), ?_⟩
    have u6 : ((uI I 236 (Int.toNat (wr (1292 + (I 236 3)))) v0) 236 3) = (I 236 3) := uJ_ne (by omega)
    refine ⟨_, rfl, (by decide), (by decide), (by decide), ?_⟩
    have n7 : (wr (((uI I 236 (Int.toNat (wr (1292 + (I 236 3)))) v0) 236 3) + 1)) = ((uI I 236 (Int.toNat (wr (1292 + (I 236 3)))) v0) 236 3) + 1 := wr_id (show -2147483648 ≤ (((uI I 236 (Int.toNat (wr (1292 + (I 236 3)))) v0) 236 3) + 1 : Int) ∧ (((uI I 236 (Int.toNat (wr (1292 + (I 236 3)))) v0) 236 3) + 1 : Int) < 2147483648 from by omega)
    have p8 : Pn 3 (wr (((uI I 236 (Int.toNat (wr (1292 + (I 236 3)))) v0) 236 3) + 1)) := by apply Pn_w <;> omega
    refine ⟨_, rfl, (by decide), ?_⟩
    refine fun w0 hw0 => ?_; obtain rfl : w0 = some 236 := hw0.symm.trans (FS.g hF rfl)
    refine ⟨_, rfl, (by decide), (by decide), (by decide), ?_⟩
    have hnn : (uI (uI I 236 (Int.toNat (wr (1292 + (I 236 3)))) v0) 236 3 (wr (((uI I 236 (Int.toNat (wr (1292 + (I 236 3)))) v0) 236 3) + 1))) 236 3 = (wr (((uI I 236 (Int.toNat (wr (1292 + (I 236 3)))) v0) 236 3) + 1)) := uJ_eqj (show 3 = 3 from by omega)
    exact ⟨rfl, fun hv hA' => hQ _ _ (Rg.u (Rg.u hR (Pr_n p5)) (Pr_n p8)) hA' (hv _ rfl) (fun ka ja hk => ((uI_o (show ¬ (ka = 236 ∧ ja = 3) from by omega))).trans ((uI_o (show ¬ (ka = 236 ∧ ja = (Int.toNat (wr (1292 + (I 236 3))))) from by omega)))) (show (48 ≤ I 236 3 → (wr (((uI I 236 (Int.toNat (wr (1292 + (I 236 3)))) v0) 236 3) + 1)) = -1000004 ∧ (uI (uI I 236 (Int.toNat (wr (1292 + (I 236 3)))) v0) 236 3 (wr (((uI I 236 (Int.toNat (wr (1292 + (I 236 3)))) v0) 236 3) + 1))) 236 3 = I 236 3 ∧ ∀ j : Nat, j < 48 → (uI (uI I 236 (Int.toNat (wr (1292 + (I 236 3)))) v0) 236 3 (wr (((uI I 236 (Int.toNat (wr (1292 + (I 236 3)))) v0) 236 3) + 1))) 236 (1292 + j) = I 236 (1292 + j)) ∧ (I 236 3 < 48 → (wr (((uI I 236 (Int.toNat (wr (1292 + (I 236 3)))) v0) 236 3) + 1)) = I 236 3 + 1 ∧ (uI (uI I 236 (Int.toNat (wr (1292 + (I 236 3)))) v0) 236 3 (wr (((uI I 236 (Int.toNat (wr (1292 + (I 236 3)))) v0) 236 3) + 1))) 236 3 = I 236 3 + 1 ∧ ∀ j : Nat, j < 48 → ((j : Int) = I 236 3 → (uI (uI I 236 (Int.toNat (wr (1292 + (I 236 3)))) v0) 236 3 (wr (((uI I 236 (Int.toNat (wr (1292 + (I 236 3)))) v0) 236 3) + 1))) 236 (1292 + j) = v0) ∧ (¬ (j : Int) = I 236 3 → (uI (uI I 236 (Int.toNat (wr (1292 + (I 236 3)))) v0) 236 3 (wr (((uI I 236 (Int.toNat (wr (1292 + (I 236 3)))) v0) 236 3) + 1))) 236 (1292 + j) = I 236 (1292 + j))) from ⟨fun z => absurd z (by omega), fun _ => ⟨(by omega), (by omega), fun j hj => ⟨fun e => (uJ_ne (show ¬ (1292 + j) = 3 from by omega)).trans (uJ_eqj (show (1292 + j) = (Int.toNat (wr (1292 + (I 236 3)))) from by omega)), fun e => (uJ_ne (show ¬ (1292 + j) = 3 from by omega)).trans (uJ_ne (show ¬ (1292 + j) = (Int.toNat (wr (1292 + (I 236 3)))) from by omega))⟩⟩⟩)⟩
  ·
    refine ⟨⟨_, rfl, (by decide)⟩, ?_⟩
    refine s_X12_finding hF (v := (-1000004)) (by decide) ?_
    exact ⟨rfl, fun hv hA' => hQ _ _ (Rg.u hR (Pr_f rfl)) hA' (hv _ rfl) (fun ka ja hk => (uI_o (show ¬ (ka = 238 ∧ ja = 4) from by omega))) (show (48 ≤ I 236 3 → (-1000004) = -1000004 ∧ (uI I 238 4 (wr ((I 238 4) + 1))) 236 3 = I 236 3 ∧ ∀ j : Nat, j < 48 → (uI I 238 4 (wr ((I 238 4) + 1))) 236 (1292 + j) = I 236 (1292 + j)) ∧ (I 236 3 < 48 → (-1000004) = I 236 3 + 1 ∧ (uI I 238 4 (wr ((I 238 4) + 1))) 236 3 = I 236 3 + 1 ∧ ∀ j : Nat, j < 48 → ((j : Int) = I 236 3 → (uI I 238 4 (wr ((I 238 4) + 1))) 236 (1292 + j) = v0) ∧ (¬ (j : Int) = I 236 3 → (uI I 238 4 (wr ((I 238 4) + 1))) 236 (1292 + j) = I 236 (1292 + j))) from ⟨fun _ => ⟨rfl, uI_o (show ¬ (236 = 238 ∧ 3 = 4) from fun e => absurd e.1 (by decide)), fun j hj => uI_o (show ¬ (236 = 238 ∧ (1292 + j) = 4) from fun e => absurd e.1 (by decide))⟩, fun z => absurd z (by omega)⟩)⟩
end TL10
