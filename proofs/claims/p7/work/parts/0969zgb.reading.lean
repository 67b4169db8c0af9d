/-! what reading answers. Own work (scripts laid by wip/pm/gen34.py). -/
section RE11
variable {G : pG} {d : Nat} {F : pF} {I : pI} {Q : Option pV → pF → pI → Prop}
theorem c_reading11 (hF : FS F) (hR : Rg I) {v0 v1 v2 : Int} (hc : I 1 1 ≤ 14) {SF LF : Nat → Nat → Int} {NF : Nat → Int} (hq : ∀ p : Nat, (p : Int) < I 1 1 → RDS I ((1 + 19 + 5 * p) + 2) (SF p) (LF p) (NF p)) (hQ : ∀ (r : Int) (I' : pI), Rg I' → AR I' → iR r → (∀ k j, ¬ (k = 203) → I' k j = I k j) → ((¬ ((0 ≤ v0 ∧ v0 < I 1 1)) → r = -1000001) ∧ (((0 ≤ v0 ∧ v0 < I 1 1)) → (¬ ((0 ≤ v1 ∧ v1 < NF (Int.toNat v0)) ∧ 0 ≤ v2 ∧ v2 ≤ 1) → r = -1000001) ∧ (((0 ≤ v1 ∧ v1 < NF (Int.toNat v0)) ∧ 0 ≤ v2 ∧ v2 ≤ 1) → (v2 = 0 → r = SF (Int.toNat v0) (Int.toNat v1)) ∧ (¬ v2 = 0 → r = LF (Int.toNat v0) (Int.toNat v1))))) → Q (some (vi r)) F I') : CallN G (d + 2) kX11_reading [vr 0, vi v0, vi v1, vi v2] NP F I Q := by
  refine CallN_in (fun hok hA => CallN_out ?_)
  have iv0 : -2147483648 ≤ v0 ∧ v0 < 2147483648 := hok (vi v0) (by simp)
  have iv1 : -2147483648 ≤ v1 ∧ v1 < 2147483648 := hok (vi v1) (by simp)
  have iv2 : -2147483648 ≤ v2 ∧ v2 < 2147483648 := hok (vi v2) (by simp)
  refine Call_wp (lv := [some (vr 0), some (vi v0), some (vi v1), some (vi v2), none]) (by decide) ckX11_reading [] rfl rfl ?_
  refine ⟨_, rfl, (by decide), ?_⟩
  refine fun w0 hw0 => ?_; obtain rfl : w0 = some 1 := hw0.symm.trans (FS.g hF rfl)
  refine ⟨⟨_, rfl, (by decide)⟩, ?_⟩
  refine s_X8_pieceAt hF (S := 1) (Or.inl rfl) (fun (w1 : (0 ≤ v0 ∧ v0 < (I 1 1) ∧ v0 < 14)) => ?_) (fun (w1 : ¬ (0 ≤ v0 ∧ v0 < (I 1 1) ∧ v0 < 14)) => ?_)
  ·
    have hp2 : PP F (1 + 19 + 5 * Int.toNat v0) := PP_of hF (by omega)
    refine ⟨_, hp2.1.1, (by have := hp2.2; show _ < 254; omega), ?_⟩
    refine fun w0 hw0 => ?_; obtain rfl : w0 = some ((1 + 19 + 5 * Int.toNat v0) + 2) := hw0.symm.trans hp2.1.2.2.2.2.1
    refine ⟨_, hp2.r.1.1, (by have := hp2.r.2; show _ < 254; omega), ?_⟩
    have z3 : (I ((1 + 19 + 5 * Int.toNat v0) + 2) 2) = NF (Int.toNat v0) := (hq (Int.toNat v0) (by omega)).1
    have z4 := (hq (Int.toNat v0) (by omega)).2.2.1
    have a5 : -2147483648 ≤ (I ((1 + 19 + 5 * Int.toNat v0) + 2) 2) ∧ (I ((1 + 19 + 5 * Int.toNat v0) + 2) 2) < 2147483648 := hA.1 _ _
    have n6 : (wr ((I ((1 + 19 + 5 * Int.toNat v0) + 2) 2) - 1)) = (I ((1 + 19 + 5 * Int.toNat v0) + 2) 2) - 1 := wr_id (show -2147483648 ≤ ((I ((1 + 19 + 5 * Int.toNat v0) + 2) 2) - 1 : Int) ∧ ((I ((1 + 19 + 5 * Int.toNat v0) + 2) 2) - 1 : Int) < 2147483648 from by omega)
    refine s_X11_within (fun (w7 : ((0 : Int) ≤ v1 ∧ (v1 : Int) ≤ (wr ((I ((1 + 19 + 5 * Int.toNat v0) + 2) 2) - 1)))) => ?_) (fun (w7 : ¬ ((0 : Int) ≤ v1 ∧ (v1 : Int) ≤ (wr ((I ((1 + 19 + 5 * Int.toNat v0) + 2) 2) - 1)))) => ?_)
    ·
      refine ⟨fun c => absurd c (show (¬ ((1 : Int) = 0)) from by decide), fun _ => ?_⟩
      refine s_X11_within (fun (w8 : ((0 : Int) ≤ v2 ∧ (v2 : Int) ≤ 1)) => ?_) (fun (w8 : ¬ ((0 : Int) ≤ v2 ∧ (v2 : Int) ≤ 1)) => ?_)
      ·
        refine ⟨fun _ => ?_, fun c => absurd c (show (¬ (1 : Int) = 0) from by decide)⟩
        refine ⟨fun (c9 : (¬ (v2 : Int) = 0)) => ?_, fun (c9 : ((v2 : Int) = 0)) => ?_⟩
        ·
          refine ⟨_, hp2.1.1, (by have := hp2.2; show _ < 254; omega), ?_⟩
          refine fun w0 hw0 => ?_; obtain rfl : w0 = some ((1 + 19 + 5 * Int.toNat v0) + 2) := hw0.symm.trans hp2.1.2.2.2.2.1
          refine ⟨⟨_, hp2.r.1.1, (by have := hp2.r.2; show _ < 254; omega)⟩, ?_⟩
          refine Call_wp (lv := [some (vr ((1 + 19 + 5 * Int.toNat v0) + 2)), some (vi v1)]) (by decide) ckX6_loadAt [] rfl rfl ?_
          refine ⟨fun c => absurd c (show (¬ ((v1 : Int) < 0)) from by first | omega | (simp only [wr, wl] at *; omega)), fun _ => ?_⟩
          refine ⟨_, hp2.r.1.1, (by have := hp2.r.2; show _ < 254; omega), ?_⟩
          refine ⟨fun (c10 : (((I ((1 + 19 + 5 * Int.toNat v0) + 2) 2) : Int) ≤ v1)) => ?_, fun (c10 : (¬ (((I ((1 + 19 + 5 * Int.toNat v0) + 2) 2) : Int) ≤ v1))) => ?_⟩
          ·
            refine ⟨rfl, ?_⟩
            exact ⟨rfl, fun hv hA' => hQ _ _ hR hA' (hv _ rfl) (fun _ _ _ => rfl) (show (¬ ((0 ≤ v0 ∧ v0 < I 1 1)) → (-1) = -1000001) ∧ (((0 ≤ v0 ∧ v0 < I 1 1)) → (¬ ((0 ≤ v1 ∧ v1 < NF (Int.toNat v0)) ∧ 0 ≤ v2 ∧ v2 ≤ 1) → (-1) = -1000001) ∧ (((0 ≤ v1 ∧ v1 < NF (Int.toNat v0)) ∧ 0 ≤ v2 ∧ v2 ≤ 1) → (v2 = 0 → (-1) = SF (Int.toNat v0) (Int.toNat v1)) ∧ (¬ v2 = 0 → (-1) = LF (Int.toNat v0) (Int.toNat v1)))) from by
                              refine ⟨fun z => ?_, fun z => ?_⟩
                              · first | omega | (exfalso; omega)
                              · first | (refine ⟨fun b => ?_, fun b => ⟨fun c => ?_, fun c => ?_⟩⟩ <;> first | omega | (exfalso; omega)) | (exfalso; omega))⟩
          ·
            refine ⟨fun c => absurd c (show (¬ ((24 : Int) ≤ v1)) from by first | omega | (simp only [wr, wl] at *; omega)), fun _ => ?_⟩
            refine ⟨_, hp2.r.1.1, (by have := hp2.r.2; show _ < 254; omega), ?_⟩
            refine fun w0 hw0 => ?_; obtain rfl : w0 = some (((1 + 19 + 5 * Int.toNat v0) + 2) + 2) := hw0.symm.trans hp2.r.1.2.2.2.2.2
            refine ⟨_, hp2.r.1.2.2.1, (by have := hp2.r.2; show _ < 254; omega), (show (0 : Int) ≤ v1 from by first | omega | (simp only [wr, wl] at *; omega)), (show v1 < (24 : Int) from by first | omega | (simp only [wr, wl] at *; omega)), ?_⟩
            have z11 : (I (((1 + 19 + 5 * Int.toNat v0) + 2) + 2) (Int.toNat v1)) = LF (Int.toNat v0) (Int.toNat v1) := ((hq (Int.toNat v0) (by omega)).2.1 _ (by omega)).2
            refine ⟨rfl, ?_⟩
            have a12 : -2147483648 ≤ (I (((1 + 19 + 5 * Int.toNat v0) + 2) + 2) (Int.toNat v1)) ∧ (I (((1 + 19 + 5 * Int.toNat v0) + 2) + 2) (Int.toNat v1)) < 2147483648 := hA.1 _ _
            exact ⟨rfl, fun hv hA' => hQ _ _ hR hA' (hv _ rfl) (fun _ _ _ => rfl) (show (¬ ((0 ≤ v0 ∧ v0 < I 1 1)) → (I (((1 + 19 + 5 * Int.toNat v0) + 2) + 2) (Int.toNat v1)) = -1000001) ∧ (((0 ≤ v0 ∧ v0 < I 1 1)) → (¬ ((0 ≤ v1 ∧ v1 < NF (Int.toNat v0)) ∧ 0 ≤ v2 ∧ v2 ≤ 1) → (I (((1 + 19 + 5 * Int.toNat v0) + 2) + 2) (Int.toNat v1)) = -1000001) ∧ (((0 ≤ v1 ∧ v1 < NF (Int.toNat v0)) ∧ 0 ≤ v2 ∧ v2 ≤ 1) → (v2 = 0 → (I (((1 + 19 + 5 * Int.toNat v0) + 2) + 2) (Int.toNat v1)) = SF (Int.toNat v0) (Int.toNat v1)) ∧ (¬ v2 = 0 → (I (((1 + 19 + 5 * Int.toNat v0) + 2) + 2) (Int.toNat v1)) = LF (Int.toNat v0) (Int.toNat v1)))) from by
                              refine ⟨fun z => ?_, fun z => ?_⟩
                              · first | omega | (exfalso; omega)
                              · first | (refine ⟨fun b => ?_, fun b => ⟨fun c => ?_, fun c => ?_⟩⟩ <;> first | omega | (exfalso; omega)) | (exfalso; omega))⟩
        ·
          refine ⟨_, hp2.1.1, (by have := hp2.2; show _ < 254; omega), ?_⟩
          refine fun w0 hw0 => ?_; obtain rfl : w0 = some ((1 + 19 + 5 * Int.toNat v0) + 2) := hw0.symm.trans hp2.1.2.2.2.2.1
          refine ⟨⟨_, hp2.r.1.1, (by have := hp2.r.2; show _ < 254; omega)⟩, ?_⟩
          refine Call_wp (lv := [some (vr ((1 + 19 + 5 * Int.toNat v0) + 2)), some (vi v1)]) (by decide) ckX6_stretchAt [] rfl rfl ?_
          refine ⟨fun c => absurd c (show (¬ ((v1 : Int) < 0)) from by first | omega | (simp only [wr, wl] at *; omega)), fun _ => ?_⟩
          refine ⟨_, hp2.r.1.1, (by have := hp2.r.2; show _ < 254; omega), ?_⟩
          refine ⟨fun (c13 : (((I ((1 + 19 + 5 * Int.toNat v0) + 2) 2) : Int) ≤ v1)) => ?_, fun (c13 : (¬ (((I ((1 + 19 + 5 * Int.toNat v0) + 2) 2) : Int) ≤ v1))) => ?_⟩
          ·
            refine ⟨rfl, ?_⟩
            exact ⟨rfl, fun hv hA' => hQ _ _ hR hA' (hv _ rfl) (fun _ _ _ => rfl) (show (¬ ((0 ≤ v0 ∧ v0 < I 1 1)) → 0 = -1000001) ∧ (((0 ≤ v0 ∧ v0 < I 1 1)) → (¬ ((0 ≤ v1 ∧ v1 < NF (Int.toNat v0)) ∧ 0 ≤ v2 ∧ v2 ≤ 1) → 0 = -1000001) ∧ (((0 ≤ v1 ∧ v1 < NF (Int.toNat v0)) ∧ 0 ≤ v2 ∧ v2 ≤ 1) → (v2 = 0 → 0 = SF (Int.toNat v0) (Int.toNat v1)) ∧ (¬ v2 = 0 → 0 = LF (Int.toNat v0) (Int.toNat v1)))) from by
                              refine ⟨fun z => ?_, fun z => ?_⟩
                              · first | omega | (exfalso; omega)
                              · first | (refine ⟨fun b => ?_, fun b => ⟨fun c => ?_, fun c => ?_⟩⟩ <;> first | omega | (exfalso; omega)) | (exfalso; omega))⟩
          ·
            refine ⟨fun c => absurd c (show (¬ ((24 : Int) ≤ v1)) from by first | omega | (simp only [wr, wl] at *; omega)), fun _ => ?_⟩
            refine ⟨_, hp2.r.1.1, (by have := hp2.r.2; show _ < 254; omega), ?_⟩
            refine fun w0 hw0 => ?_; obtain rfl : w0 = some (((1 + 19 + 5 * Int.toNat v0) + 2) + 1) := hw0.symm.trans hp2.r.1.2.2.2.2.1
            refine ⟨_, hp2.r.1.2.1, (by have := hp2.r.2; show _ < 254; omega), (show (0 : Int) ≤ v1 from by first | omega | (simp only [wr, wl] at *; omega)), (show v1 < (24 : Int) from by first | omega | (simp only [wr, wl] at *; omega)), ?_⟩
            have z14 : (I (((1 + 19 + 5 * Int.toNat v0) + 2) + 1) (Int.toNat v1)) = SF (Int.toNat v0) (Int.toNat v1) := ((hq (Int.toNat v0) (by omega)).2.1 _ (by omega)).1
            refine ⟨rfl, ?_⟩
            have a15 : -2147483648 ≤ (I (((1 + 19 + 5 * Int.toNat v0) + 2) + 1) (Int.toNat v1)) ∧ (I (((1 + 19 + 5 * Int.toNat v0) + 2) + 1) (Int.toNat v1)) < 2147483648 := hA.1 _ _
            exact ⟨rfl, fun hv hA' => hQ _ _ hR hA' (hv _ rfl) (fun _ _ _ => rfl) (show (¬ ((0 ≤ v0 ∧ v0 < I 1 1)) → (I (((1 + 19 + 5 * Int.toNat v0) + 2) + 1) (Int.toNat v1)) = -1000001) ∧ (((0 ≤ v0 ∧ v0 < I 1 1)) → (¬ ((0 ≤ v1 ∧ v1 < NF (Int.toNat v0)) ∧ 0 ≤ v2 ∧ v2 ≤ 1) → (I (((1 + 19 + 5 * Int.toNat v0) + 2) + 1) (Int.toNat v1)) = -1000001) ∧ (((0 ≤ v1 ∧ v1 < NF (Int.toNat v0)) ∧ 0 ≤ v2 ∧ v2 ≤ 1) → (v2 = 0 → (I (((1 + 19 + 5 * Int.toNat v0) + 2) + 1) (Int.toNat v1)) = SF (Int.toNat v0) (Int.toNat v1)) ∧ (¬ v2 = 0 → (I (((1 + 19 + 5 * Int.toNat v0) + 2) + 1) (Int.toNat v1)) = LF (Int.toNat v0) (Int.toNat v1)))) from by
                              refine ⟨fun z => ?_, fun z => ?_⟩
                              · first | omega | (exfalso; omega)
                              · first | (refine ⟨fun b => ?_, fun b => ⟨fun c => ?_, fun c => ?_⟩⟩ <;> first | omega | (exfalso; omega)) | (exfalso; omega))⟩
      ·
        refine ⟨fun c => absurd (show ((0 : Int) = 0) from by decide) c, fun _ => ?_⟩
        refine ⟨⟨_, rfl, (by decide)⟩, ?_⟩
        refine s_X11_refuse hF (e := 1) (by decide) ?_
        exact ⟨rfl, fun hv hA' => hQ _ _ (Rg.u hR (Pr_f rfl)) hA' (hv _ rfl) (fun ka ja hk => (uI_o (show ¬ (ka = 203 ∧ ja = 1) from by omega))) (show (¬ ((0 ≤ v0 ∧ v0 < I 1 1)) → (-1000001) = -1000001) ∧ (((0 ≤ v0 ∧ v0 < I 1 1)) → (¬ ((0 ≤ v1 ∧ v1 < NF (Int.toNat v0)) ∧ 0 ≤ v2 ∧ v2 ≤ 1) → (-1000001) = -1000001) ∧ (((0 ≤ v1 ∧ v1 < NF (Int.toNat v0)) ∧ 0 ≤ v2 ∧ v2 ≤ 1) → (v2 = 0 → (-1000001) = SF (Int.toNat v0) (Int.toNat v1)) ∧ (¬ v2 = 0 → (-1000001) = LF (Int.toNat v0) (Int.toNat v1)))) from by
                              refine ⟨fun z => ?_, fun z => ?_⟩
                              · first | omega | (exfalso; omega)
                              · first | (refine ⟨fun b => ?_, fun b => ⟨fun c => ?_, fun c => ?_⟩⟩ <;> first | omega | (exfalso; omega)) | (exfalso; omega))⟩
    ·
      refine ⟨fun _ => ?_, fun c => absurd (show ((0 : Int) = 0) from by decide) c⟩
      refine ⟨⟨_, rfl, (by decide)⟩, ?_⟩
      refine s_X11_refuse hF (e := 1) (by decide) ?_
      exact ⟨rfl, fun hv hA' => hQ _ _ (Rg.u hR (Pr_f rfl)) hA' (hv _ rfl) (fun ka ja hk => (uI_o (show ¬ (ka = 203 ∧ ja = 1) from by omega))) (show (¬ ((0 ≤ v0 ∧ v0 < I 1 1)) → (-1000001) = -1000001) ∧ (((0 ≤ v0 ∧ v0 < I 1 1)) → (¬ ((0 ≤ v1 ∧ v1 < NF (Int.toNat v0)) ∧ 0 ≤ v2 ∧ v2 ≤ 1) → (-1000001) = -1000001) ∧ (((0 ≤ v1 ∧ v1 < NF (Int.toNat v0)) ∧ 0 ≤ v2 ∧ v2 ≤ 1) → (v2 = 0 → (-1000001) = SF (Int.toNat v0) (Int.toNat v1)) ∧ (¬ v2 = 0 → (-1000001) = LF (Int.toNat v0) (Int.toNat v1)))) from by
                              refine ⟨fun z => ?_, fun z => ?_⟩
                              · first | omega | (exfalso; omega)
                              · first | (refine ⟨fun b => ?_, fun b => ⟨fun c => ?_, fun c => ?_⟩⟩ <;> first | omega | (exfalso; omega)) | (exfalso; omega))⟩
  ·
    refine ⟨⟨_, rfl, (by decide)⟩, ?_⟩
    refine s_X11_refuse hF (e := 1) (by decide) ?_
    exact ⟨rfl, fun hv hA' => hQ _ _ (Rg.u hR (Pr_f rfl)) hA' (hv _ rfl) (fun ka ja hk => (uI_o (show ¬ (ka = 203 ∧ ja = 1) from by omega))) (show (¬ ((0 ≤ v0 ∧ v0 < I 1 1)) → (-1000001) = -1000001) ∧ (((0 ≤ v0 ∧ v0 < I 1 1)) → (¬ ((0 ≤ v1 ∧ v1 < NF (Int.toNat v0)) ∧ 0 ≤ v2 ∧ v2 ≤ 1) → (-1000001) = -1000001) ∧ (((0 ≤ v1 ∧ v1 < NF (Int.toNat v0)) ∧ 0 ≤ v2 ∧ v2 ≤ 1) → (v2 = 0 → (-1000001) = SF (Int.toNat v0) (Int.toNat v1)) ∧ (¬ v2 = 0 → (-1000001) = LF (Int.toNat v0) (Int.toNat v1)))) from by
                              refine ⟨fun z => ?_, fun z => ?_⟩
                              · first | omega | (exfalso; omega)
                              · first | (refine ⟨fun b => ?_, fun b => ⟨fun c => ?_, fun c => ?_⟩⟩ <;> first | omega | (exfalso; omega)) | (exfalso; omega))⟩
theorem r_reading11 (hF : FS F) (hR : Rg I) {v0 v1 v2 : Int} {SF LF : Nat → Nat → Int} {NF : Nat → Int} (hq : ∀ p : Nat, (p : Int) < I 236 0 → RDM I p (SF p) (LF p) (NF p)) (hQ : ∀ (r : Int) (I' : pI), Rg I' → AR I' → iR r → (∀ k j, ¬ (k = 238) → I' k j = I k j) → ((¬ ((0 ≤ v0 ∧ v0 < I 236 0)) → r = -1000001) ∧ (((0 ≤ v0 ∧ v0 < I 236 0)) → (¬ ((0 ≤ v1 ∧ v1 < NF (Int.toNat v0)) ∧ 0 ≤ v2 ∧ v2 ≤ 1) → r = -1000001) ∧ (((0 ≤ v1 ∧ v1 < NF (Int.toNat v0)) ∧ 0 ≤ v2 ∧ v2 ≤ 1) → (v2 = 0 → r = SF (Int.toNat v0) (Int.toNat v1)) ∧ (¬ v2 = 0 → r = LF (Int.toNat v0) (Int.toNat v1))))) → Q (some (vi r)) F I') : CallN G (d + 2) kX12_reading [vr 235, vi v0, vi v1, vi v2] NP F I Q := by
  refine CallN_in (fun hok hA => CallN_out ?_)
  have iv0 : -2147483648 ≤ v0 ∧ v0 < 2147483648 := hok (vi v0) (by simp)
  have iv1 : -2147483648 ≤ v1 ∧ v1 < 2147483648 := hok (vi v1) (by simp)
  have iv2 : -2147483648 ≤ v2 ∧ v2 < 2147483648 := hok (vi v2) (by simp)
  refine Call_wp (lv := [some (vr 235), some (vi v0), some (vi v1), some (vi v2)]) (by decide) ckX12_reading [] rfl rfl ?_
  refine ⟨⟨_, rfl, (by decide)⟩, ?_⟩
  have r1 : 0 ≤ (I 236 0) ∧ (I 236 0) ≤ 14 := Rg.n0 hR
  refine s_X12_is hF (w := 0) (by decide) (show 0 ≤ (I 236 0) ∧ (I 236 0) < 1000000 from by omega) (fun (w2 : (0 ≤ v0 ∧ v0 < (I 236 0))) => ?_) (fun (w2 : ¬ (0 ≤ v0 ∧ v0 < (I 236 0))) => ?_)
  ·
    refine ⟨fun c => absurd c (show (¬ ((1 : Int) = 0)) from by decide), fun _ => ?_⟩
    refine ⟨⟨_, rfl, (by decide)⟩, ?_⟩
    refine Call_wp (lv := [some (vr 235), some (vi v0)]) (by decide) ckX12_many [] rfl rfl ?_
    refine ⟨⟨_, rfl, (by decide)⟩, ?_⟩
    refine Call_wp (lv := [some (vr 235), some (vi v0), some (vi 4)]) (by decide) ckX12_of [] rfl rfl ?_
    refine ⟨_, rfl, (by decide), ?_⟩
    refine fun w0 hw0 => ?_; obtain rfl : w0 = some 236 := hw0.symm.trans (FS.g hF rfl)
    have n3 : (wr (66 * v0)) = 66 * v0 := wr_id (show -2147483648 ≤ (66 * v0 : Int) ∧ (66 * v0 : Int) < 2147483648 from by omega)
    have n4 : (wr (304 + (wr (66 * v0)))) = 304 + (wr (66 * v0)) := wr_id (show -2147483648 ≤ (304 + (wr (66 * v0)) : Int) ∧ (304 + (wr (66 * v0)) : Int) < 2147483648 from by omega)
    have n5 : (wr ((wr (304 + (wr (66 * v0)))) + 4)) = (wr (304 + (wr (66 * v0)))) + 4 := wr_id (show -2147483648 ≤ ((wr (304 + (wr (66 * v0)))) + 4 : Int) ∧ ((wr (304 + (wr (66 * v0)))) + 4 : Int) < 2147483648 from by omega)
    refine ⟨_, rfl, (by decide), (show (0 : Int) ≤ (wr ((wr (304 + (wr (66 * v0)))) + 4)) from by first | omega | (simp only [wr, wl] at *; omega)), (show (wr ((wr (304 + (wr (66 * v0)))) + 4)) < (1340 : Int) from by first | omega | (simp only [wr, wl] at *; omega)), ?_⟩
    have z6 : (I 236 (Int.toNat (wr ((wr (304 + (wr (66 * v0)))) + 4)))) = NF (Int.toNat v0) := (congrArg (I 236) (by omega)).trans (hq (Int.toNat v0) (by omega)).1
    have z7 := (hq (Int.toNat v0) (by omega)).2.2.1
    have r8 : 0 ≤ (I 236 (Int.toNat (wr ((wr (304 + (wr (66 * v0)))) + 4)))) ∧ (I 236 (Int.toNat (wr ((wr (304 + (wr (66 * v0)))) + 4)))) ≤ 24 := Pn_p4 (p := (Int.toNat v0)) (by omega) (by omega) (hR.n (Int.toNat (wr ((wr (304 + (wr (66 * v0)))) + 4))) (by omega))
    refine ⟨rfl, ?_⟩
    refine ⟨rfl, ?_⟩
    have a9 : -2147483648 ≤ (I 236 (Int.toNat (wr ((wr (304 + (wr (66 * v0)))) + 4)))) ∧ (I 236 (Int.toNat (wr ((wr (304 + (wr (66 * v0)))) + 4)))) < 2147483648 := hA.1 _ _
    have n10 : (wr ((I 236 (Int.toNat (wr ((wr (304 + (wr (66 * v0)))) + 4)))) - 1)) = (I 236 (Int.toNat (wr ((wr (304 + (wr (66 * v0)))) + 4)))) - 1 := wr_id (show -2147483648 ≤ ((I 236 (Int.toNat (wr ((wr (304 + (wr (66 * v0)))) + 4)))) - 1 : Int) ∧ ((I 236 (Int.toNat (wr ((wr (304 + (wr (66 * v0)))) + 4)))) - 1 : Int) < 2147483648 from by omega)
    refine s_X12_within (fun (w11 : ((0 : Int) ≤ v1 ∧ (v1 : Int) ≤ (wr ((I 236 (Int.toNat (wr ((wr (304 + (wr (66 * v0)))) + 4)))) - 1)))) => ?_) (fun (w11 : ¬ ((0 : Int) ≤ v1 ∧ (v1 : Int) ≤ (wr ((I 236 (Int.toNat (wr ((wr (304 + (wr (66 * v0)))) + 4)))) - 1)))) => ?_)
    ·
      refine ⟨fun c => absurd c (show (¬ ((1 : Int) = 0)) from by decide), fun _ => ?_⟩
      refine s_X12_within (fun (w12 : ((0 : Int) ≤ v2 ∧ (v2 : Int) ≤ 1)) => ?_) (fun (w12 : ¬ ((0 : Int) ≤ v2 ∧ (v2 : Int) ≤ 1)) => ?_)
      ·
        refine ⟨fun _ => ?_, fun c => absurd c (show (¬ (1 : Int) = 0) from by decide)⟩
        refine ⟨fun (c13 : (¬ (v2 : Int) = 0)) => ?_, fun (c13 : ((v2 : Int) = 0)) => ?_⟩
        ·
          refine ⟨⟨_, rfl, (by decide)⟩, ?_⟩
          refine Call_wp (lv := [some (vr 235), some (vi v0), some (vi v1)]) (by decide) ckX12_load [] rfl rfl ?_
          refine ⟨⟨_, rfl, (by decide)⟩, ?_⟩
          refine Call_wp (lv := [some (vr 235), some (vi v0), some (vi (wr ((wr (17 + (wr (2 * v1)))) + 1)))]) (by decide) ckX12_of [] rfl rfl ?_
          refine ⟨_, rfl, (by decide), ?_⟩
          refine fun w0 hw0 => ?_; obtain rfl : w0 = some 236 := hw0.symm.trans (FS.g hF rfl)
          have n14 : (wr (2 * v1)) = 2 * v1 := wr_id (show -2147483648 ≤ (2 * v1 : Int) ∧ (2 * v1 : Int) < 2147483648 from by omega)
          have n15 : (wr (17 + (wr (2 * v1)))) = 17 + (wr (2 * v1)) := wr_id (show -2147483648 ≤ (17 + (wr (2 * v1)) : Int) ∧ (17 + (wr (2 * v1)) : Int) < 2147483648 from by omega)
          have n16 : (wr ((wr (17 + (wr (2 * v1)))) + 1)) = (wr (17 + (wr (2 * v1)))) + 1 := wr_id (show -2147483648 ≤ ((wr (17 + (wr (2 * v1)))) + 1 : Int) ∧ ((wr (17 + (wr (2 * v1)))) + 1 : Int) < 2147483648 from by omega)
          have n17 : (wr ((wr (304 + (wr (66 * v0)))) + (wr ((wr (17 + (wr (2 * v1)))) + 1)))) = (wr (304 + (wr (66 * v0)))) + (wr ((wr (17 + (wr (2 * v1)))) + 1)) := wr_id (show -2147483648 ≤ ((wr (304 + (wr (66 * v0)))) + (wr ((wr (17 + (wr (2 * v1)))) + 1)) : Int) ∧ ((wr (304 + (wr (66 * v0)))) + (wr ((wr (17 + (wr (2 * v1)))) + 1)) : Int) < 2147483648 from by omega)
          refine ⟨_, rfl, (by decide), (show (0 : Int) ≤ (wr ((wr (304 + (wr (66 * v0)))) + (wr ((wr (17 + (wr (2 * v1)))) + 1)))) from by first | omega | (simp only [wr, wl] at *; omega)), (show (wr ((wr (304 + (wr (66 * v0)))) + (wr ((wr (17 + (wr (2 * v1)))) + 1)))) < (1340 : Int) from by first | omega | (simp only [wr, wl] at *; omega)), ?_⟩
          have z18 : (I 236 (Int.toNat (wr ((wr (304 + (wr (66 * v0)))) + (wr ((wr (17 + (wr (2 * v1)))) + 1)))))) = LF (Int.toNat v0) (Int.toNat v1) := (congrArg (I 236) (by omega)).trans ((hq (Int.toNat v0) (by omega)).2.1 (Int.toNat v1) (by omega)).2
          refine ⟨rfl, ?_⟩
          refine ⟨rfl, ?_⟩
          have a19 : -2147483648 ≤ (I 236 (Int.toNat (wr ((wr (304 + (wr (66 * v0)))) + (wr ((wr (17 + (wr (2 * v1)))) + 1)))))) ∧ (I 236 (Int.toNat (wr ((wr (304 + (wr (66 * v0)))) + (wr ((wr (17 + (wr (2 * v1)))) + 1)))))) < 2147483648 := hA.1 _ _
          exact ⟨rfl, fun hv hA' => hQ _ _ hR hA' (hv _ rfl) (fun _ _ _ => rfl) (show (¬ ((0 ≤ v0 ∧ v0 < I 236 0)) → (I 236 (Int.toNat (wr ((wr (304 + (wr (66 * v0)))) + (wr ((wr (17 + (wr (2 * v1)))) + 1)))))) = -1000001) ∧ (((0 ≤ v0 ∧ v0 < I 236 0)) → (¬ ((0 ≤ v1 ∧ v1 < NF (Int.toNat v0)) ∧ 0 ≤ v2 ∧ v2 ≤ 1) → (I 236 (Int.toNat (wr ((wr (304 + (wr (66 * v0)))) + (wr ((wr (17 + (wr (2 * v1)))) + 1)))))) = -1000001) ∧ (((0 ≤ v1 ∧ v1 < NF (Int.toNat v0)) ∧ 0 ≤ v2 ∧ v2 ≤ 1) → (v2 = 0 → (I 236 (Int.toNat (wr ((wr (304 + (wr (66 * v0)))) + (wr ((wr (17 + (wr (2 * v1)))) + 1)))))) = SF (Int.toNat v0) (Int.toNat v1)) ∧ (¬ v2 = 0 → (I 236 (Int.toNat (wr ((wr (304 + (wr (66 * v0)))) + (wr ((wr (17 + (wr (2 * v1)))) + 1)))))) = LF (Int.toNat v0) (Int.toNat v1)))) from by
                              refine ⟨fun z => ?_, fun z => ?_⟩
                              · first | omega | (exfalso; omega)
                              · first | (refine ⟨fun b => ?_, fun b => ⟨fun c => ?_, fun c => ?_⟩⟩ <;> first | omega | (exfalso; omega)) | (exfalso; omega))⟩
        ·
          refine ⟨⟨_, rfl, (by decide)⟩, ?_⟩
          refine Call_wp (lv := [some (vr 235), some (vi v0), some (vi v1)]) (by decide) ckX12_stretch [] rfl rfl ?_
          refine ⟨⟨_, rfl, (by decide)⟩, ?_⟩
          refine Call_wp (lv := [some (vr 235), some (vi v0), some (vi (wr (17 + (wr (2 * v1)))))]) (by decide) ckX12_of [] rfl rfl ?_
          refine ⟨_, rfl, (by decide), ?_⟩
          refine fun w0 hw0 => ?_; obtain rfl : w0 = some 236 := hw0.symm.trans (FS.g hF rfl)
          have n20 : (wr (2 * v1)) = 2 * v1 := wr_id (show -2147483648 ≤ (2 * v1 : Int) ∧ (2 * v1 : Int) < 2147483648 from by omega)
          have n21 : (wr (17 + (wr (2 * v1)))) = 17 + (wr (2 * v1)) := wr_id (show -2147483648 ≤ (17 + (wr (2 * v1)) : Int) ∧ (17 + (wr (2 * v1)) : Int) < 2147483648 from by omega)
          have n22 : (wr ((wr (304 + (wr (66 * v0)))) + (wr (17 + (wr (2 * v1)))))) = (wr (304 + (wr (66 * v0)))) + (wr (17 + (wr (2 * v1)))) := wr_id (show -2147483648 ≤ ((wr (304 + (wr (66 * v0)))) + (wr (17 + (wr (2 * v1)))) : Int) ∧ ((wr (304 + (wr (66 * v0)))) + (wr (17 + (wr (2 * v1)))) : Int) < 2147483648 from by omega)
          refine ⟨_, rfl, (by decide), (show (0 : Int) ≤ (wr ((wr (304 + (wr (66 * v0)))) + (wr (17 + (wr (2 * v1)))))) from by first | omega | (simp only [wr, wl] at *; omega)), (show (wr ((wr (304 + (wr (66 * v0)))) + (wr (17 + (wr (2 * v1)))))) < (1340 : Int) from by first | omega | (simp only [wr, wl] at *; omega)), ?_⟩
          have z23 : (I 236 (Int.toNat (wr ((wr (304 + (wr (66 * v0)))) + (wr (17 + (wr (2 * v1)))))))) = SF (Int.toNat v0) (Int.toNat v1) := (congrArg (I 236) (by omega)).trans ((hq (Int.toNat v0) (by omega)).2.1 (Int.toNat v1) (by omega)).1
          refine ⟨rfl, ?_⟩
          refine ⟨rfl, ?_⟩
          have a24 : -2147483648 ≤ (I 236 (Int.toNat (wr ((wr (304 + (wr (66 * v0)))) + (wr (17 + (wr (2 * v1)))))))) ∧ (I 236 (Int.toNat (wr ((wr (304 + (wr (66 * v0)))) + (wr (17 + (wr (2 * v1)))))))) < 2147483648 := hA.1 _ _
          exact ⟨rfl, fun hv hA' => hQ _ _ hR hA' (hv _ rfl) (fun _ _ _ => rfl) (show (¬ ((0 ≤ v0 ∧ v0 < I 236 0)) → (I 236 (Int.toNat (wr ((wr (304 + (wr (66 * v0)))) + (wr (17 + (wr (2 * v1)))))))) = -1000001) ∧ (((0 ≤ v0 ∧ v0 < I 236 0)) → (¬ ((0 ≤ v1 ∧ v1 < NF (Int.toNat v0)) ∧ 0 ≤ v2 ∧ v2 ≤ 1) → (I 236 (Int.toNat (wr ((wr (304 + (wr (66 * v0)))) + (wr (17 + (wr (2 * v1)))))))) = -1000001) ∧ (((0 ≤ v1 ∧ v1 < NF (Int.toNat v0)) ∧ 0 ≤ v2 ∧ v2 ≤ 1) → (v2 = 0 → (I 236 (Int.toNat (wr ((wr (304 + (wr (66 * v0)))) + (wr (17 + (wr (2 * v1)))))))) = SF (Int.toNat v0) (Int.toNat v1)) ∧ (¬ v2 = 0 → (I 236 (Int.toNat (wr ((wr (304 + (wr (66 * v0)))) + (wr (17 + (wr (2 * v1)))))))) = LF (Int.toNat v0) (Int.toNat v1)))) from by
                              refine ⟨fun z => ?_, fun z => ?_⟩
                              · first | omega | (exfalso; omega)
                              · first | (refine ⟨fun b => ?_, fun b => ⟨fun c => ?_, fun c => ?_⟩⟩ <;> first | omega | (exfalso; omega)) | (exfalso; omega))⟩
      ·
        refine ⟨fun c => absurd (show ((0 : Int) = 0) from by decide) c, fun _ => ?_⟩
        refine ⟨⟨_, rfl, (by decide)⟩, ?_⟩
        refine s_X12_finding hF (v := (-1000001)) (by decide) ?_
        exact ⟨rfl, fun hv hA' => hQ _ _ (Rg.u hR (Pr_f rfl)) hA' (hv _ rfl) (fun ka ja hk => (uI_o (show ¬ (ka = 238 ∧ ja = 1) from by omega))) (show (¬ ((0 ≤ v0 ∧ v0 < I 236 0)) → (-1000001) = -1000001) ∧ (((0 ≤ v0 ∧ v0 < I 236 0)) → (¬ ((0 ≤ v1 ∧ v1 < NF (Int.toNat v0)) ∧ 0 ≤ v2 ∧ v2 ≤ 1) → (-1000001) = -1000001) ∧ (((0 ≤ v1 ∧ v1 < NF (Int.toNat v0)) ∧ 0 ≤ v2 ∧ v2 ≤ 1) → (v2 = 0 → (-1000001) = SF (Int.toNat v0) (Int.toNat v1)) ∧ (¬ v2 = 0 → (-1000001) = LF (Int.toNat v0) (Int.toNat v1)))) from by
                              refine ⟨fun z => ?_, fun z => ?_⟩
                              · first | omega | (exfalso; omega)
                              · first | (refine ⟨fun b => ?_, fun b => ⟨fun c => ?_, fun c => ?_⟩⟩ <;> first | omega | (exfalso; omega)) | (exfalso; omega))⟩
    ·
      refine ⟨fun _ => ?_, fun c => absurd (show ((0 : Int) = 0) from by decide) c⟩
      refine ⟨⟨_, rfl, (by decide)⟩, ?_⟩
      refine s_X12_finding hF (v := (-1000001)) (by decide) ?_
      exact ⟨rfl, fun hv hA' => hQ _ _ (Rg.u hR (Pr_f rfl)) hA' (hv _ rfl) (fun ka ja hk => (uI_o (show ¬ (ka = 238 ∧ ja = 1) from by omega))) (show (¬ ((0 ≤ v0 ∧ v0 < I 236 0)) → (-1000001) = -1000001) ∧ (((0 ≤ v0 ∧ v0 < I 236 0)) → (¬ ((0 ≤ v1 ∧ v1 < NF (Int.toNat v0)) ∧ 0 ≤ v2 ∧ v2 ≤ 1) → (-1000001) = -1000001) ∧ (((0 ≤ v1 ∧ v1 < NF (Int.toNat v0)) ∧ 0 ≤ v2 ∧ v2 ≤ 1) → (v2 = 0 → (-1000001) = SF (Int.toNat v0) (Int.toNat v1)) ∧ (¬ v2 = 0 → (-1000001) = LF (Int.toNat v0) (Int.toNat v1)))) from by
                              refine ⟨fun z => ?_, fun z => ?_⟩
                              · first | omega | (exfalso; omega)
                              · first | (refine ⟨fun b => ?_, fun b => ⟨fun c => ?_, fun c => ?_⟩⟩ <;> first | omega | (exfalso; omega)) | (exfalso; omega))⟩
  ·
    refine ⟨fun _ => ?_, fun c => absurd (show ((0 : Int) = 0) from by decide) c⟩
    refine ⟨⟨_, rfl, (by decide)⟩, ?_⟩
    refine s_X12_finding hF (v := (-1000001)) (by decide) ?_
    exact ⟨rfl, fun hv hA' => hQ _ _ (Rg.u hR (Pr_f rfl)) hA' (hv _ rfl) (fun ka ja hk => (uI_o (show ¬ (ka = 238 ∧ ja = 1) from by omega))) (show (¬ ((0 ≤ v0 ∧ v0 < I 236 0)) → (-1000001) = -1000001) ∧ (((0 ≤ v0 ∧ v0 < I 236 0)) → (¬ ((0 ≤ v1 ∧ v1 < NF (Int.toNat v0)) ∧ 0 ≤ v2 ∧ v2 ≤ 1) → (-1000001) = -1000001) ∧ (((0 ≤ v1 ∧ v1 < NF (Int.toNat v0)) ∧ 0 ≤ v2 ∧ v2 ≤ 1) → (v2 = 0 → (-1000001) = SF (Int.toNat v0) (Int.toNat v1)) ∧ (¬ v2 = 0 → (-1000001) = LF (Int.toNat v0) (Int.toNat v1)))) from by
                              refine ⟨fun z => ?_, fun z => ?_⟩
                              · first | omega | (exfalso; omega)
                              · first | (refine ⟨fun b => ?_, fun b => ⟨fun c => ?_, fun c => ?_⟩⟩ <;> first | omega | (exfalso; omega)) | (exfalso; omega))⟩
end RE11
def CreadingF (SF LF : Nat → Nat → Int) (NF : Nat → Int) (v0 v1 v2 r : Int) (I : pI) : Prop := (¬ ((0 ≤ v0 ∧ v0 < I 1 1)) → r = -1000001) ∧ (((0 ≤ v0 ∧ v0 < I 1 1)) → (¬ ((0 ≤ v1 ∧ v1 < NF (Int.toNat v0)) ∧ 0 ≤ v2 ∧ v2 ≤ 1) → r = -1000001) ∧ (((0 ≤ v1 ∧ v1 < NF (Int.toNat v0)) ∧ 0 ≤ v2 ∧ v2 ≤ 1) → (v2 = 0 → r = SF (Int.toNat v0) (Int.toNat v1)) ∧ (¬ v2 = 0 → r = LF (Int.toNat v0) (Int.toNat v1))))
def RreadingF (SF LF : Nat → Nat → Int) (NF : Nat → Int) (v0 v1 v2 r : Int) (J : pI) : Prop := (¬ ((0 ≤ v0 ∧ v0 < J 236 0)) → r = -1000001) ∧ (((0 ≤ v0 ∧ v0 < J 236 0)) → (¬ ((0 ≤ v1 ∧ v1 < NF (Int.toNat v0)) ∧ 0 ≤ v2 ∧ v2 ≤ 1) → r = -1000001) ∧ (((0 ≤ v1 ∧ v1 < NF (Int.toNat v0)) ∧ 0 ≤ v2 ∧ v2 ≤ 1) → (v2 = 0 → r = SF (Int.toNat v0) (Int.toNat v1)) ∧ (¬ v2 = 0 → r = LF (Int.toNat v0) (Int.toNat v1))))
theorem reading_e {I J : pI} {v0 v1 v2 r r' : Int} {SF LF : Nat → Nat → Int} {NF : Nat → Int} (hR : Rg I) (eO : I 1 1 = I 236 0) (h4 : ∀ k j, 235 ≤ k → J k j = I k j) (c : CreadingF SF LF NF v0 v1 v2 r I) (d : RreadingF SF LF NF v0 v1 v2 r' J) : r = r' := by
  have m := Rg.n0 hR
  have e0 : J 236 0 = I 236 0 := h4 236 0 (by decide)
  unfold CreadingF at c
  unfold RreadingF at d
  rw [e0, ← eO] at d
  by_cases v : 0 ≤ v0 ∧ v0 < I 1 1
  · have c1 := c.2 v
    have d1 := d.2 v
    by_cases t : ((0 ≤ v1 ∧ v1 < NF (Int.toNat v0)) ∧ 0 ≤ v2 ∧ v2 ≤ 1)
    · have c2 := c1.2 t
      have d2 := d1.2 t
      by_cases z : v2 = 0
      · exact (c2.1 z).trans (d2.1 z).symm
      · exact (c2.2 z).trans (d2.2 z).symm
    · exact (c1.1 t).trans (d1.1 t).symm
  · exact (c.1 v).trans (d.1 v).symm
