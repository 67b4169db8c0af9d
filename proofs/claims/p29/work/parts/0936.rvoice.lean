/-! voices of the reference, from any state. Own work (scripts laid by wip/pm/gen30.py). -/
section RV
variable {G : pG} {d : Nat} {F : pF} {I : pI} {Q : Option pV → pF → pI → Prop}
theorem r_began (hF : FS F) (hR : Rg I) {v0 : Int}  (hQ : ∀ (I' : pI), Rg I' → AR I' → (∀ k j, ¬ ((k = 235 ∧ (j = 31)) ∨ k = 249) → I' k j = I k j) → Q none F I') : CallN G d kX12_began [vr 235, vi v0] NP F I Q := by
  refine CallN_in (fun hok hA => CallN_out ?_)
  have iv0 : -2147483648 ≤ v0 ∧ v0 < 2147483648 := hok (vi v0) (by simp)
  refine Call_wp (lv := [some (vr 235), some (vi v0)]) (by decide) ckX12_began [] rfl rfl ?_
  refine ⟨_, rfl, (by decide), ?_⟩
  have r1 : 0 ≤ (I 235 31) ∧ (I 235 31) ≤ 30 := Rg.f31 hR
  refine ⟨fun (c3 : ((30 : Int) ≤ (I 235 31))) => ?_, fun (c3 : (¬ ((30 : Int) ≤ (I 235 31)))) => ?_⟩
  ·
    exact ⟨rfl, fun hv hA' => hQ _ hR hA' (fun _ _ _ => rfl)⟩
  ·
    refine ⟨_, rfl, (by decide), ?_⟩
    refine fun w0 hw0 => ?_; obtain rfl : w0 = some 249 := hw0.symm.trans (FS.g hF rfl)
    refine ⟨_, rfl, (by decide), ?_⟩
    refine ⟨_, rfl, (by decide), (show (0 : Int) ≤ (I 235 31) from by first | with_reducible assumption | omega | (simp only [wr, wl] at *; omega)), (show (I 235 31) < (30 : Int) from by first | with_reducible assumption | omega | (simp only [wr, wl] at *; omega)), ?_⟩
    refine ⟨_, rfl, (by decide), ?_⟩
    refine ⟨_, rfl, (by decide), ?_⟩
    have n4 : (wr ((I 235 31) + 1)) = (I 235 31) + 1 := wr_id (show -2147483648 ≤ ((I 235 31) + 1 : Int) ∧ ((I 235 31) + 1 : Int) < 2147483648 from by omega)
    have p5 : (0 : Int) ≤ (wr ((I 235 31) + 1)) ∧ ((wr ((I 235 31) + 1)) : Int) ≤ 30 := by first | omega | (simp only [wr, wl] at *; omega)
    exact ⟨rfl, fun hv hA' => hQ _ (Rg.u (Rg.u hR (Pr_p (k := 249) rfl _ _)) (Pr_x31 p5)) hA' (fun ka ja hk => ((uI_o (show ¬ (ka = 235 ∧ ja = 31) from by first | (intro e; obtain ⟨rfl, rfl⟩ := e; exact hk (by decide)) | omega))).trans ((uI_o (show ¬ (ka = 249 ∧ ja = (Int.toNat (I 235 31))) from by first | (intro e; obtain ⟨rfl, _⟩ := e; exact hk (by decide)) | omega))))⟩
theorem r_body_0_0 (hF : FS F) (hR : Rg I) {kk aa v0 : Int} (hk : kk = 0) (ha : aa = 0) (hQ : ∀ (r : Int) (I' : pI), Rg I' → AR I' → iR r → (∀ k j, ¬ ((k = 235 ∧ (j = 31 ∨ j = 33)) ∨ k = 249) → I' k j = I k j) → Q (some (vi r)) F I') : CallN G (d + 1) kX12_body [vr 235, vi kk, vi aa, vi v0] NP F I Q := by
  refine CallN_in (fun hok hA => CallN_out ?_)
  have ikk : -2147483648 ≤ kk ∧ kk < 2147483648 := hok (vi kk) (by simp)
  have iaa : -2147483648 ≤ aa ∧ aa < 2147483648 := hok (vi aa) (by simp)
  have iv0 : -2147483648 ≤ v0 ∧ v0 < 2147483648 := hok (vi v0) (by simp)
  refine Call_wp (lv := [some (vr 235), some (vi kk), some (vi aa), some (vi v0), none, none]) (by decide) ckX12_body [] rfl rfl ?_
  refine ⟨_, rfl, (by decide), ?_⟩
  have r1 : 0 ≤ (I 235 32) ∧ (I 235 32) ≤ 13 := Rg.f32 hR
  refine ⟨⟨_, rfl, (by decide)⟩, ?_⟩
  refine r_of (p := (I 235 32)) (f := 2) hF (j := (Int.toNat (306 + 66 * (I 235 32)))) (by omega) (by omega) (by omega) (fun w3 hw4 => ?_)
  have hw4 : w3 = (I 236 (Int.toNat (306 + 66 * (I 235 32)))) := hw4
  refine ⟨fun _ => ?_, fun c => absurd (show (((wr ((wr (4 * kk)) + aa)) : Int) = 0) from by first | omega | (simp only [wr, wl] at *; omega)) c⟩
  refine ⟨⟨_, rfl, (by decide)⟩, ?_⟩
  refine r_began  hF hR (fun I5 hR6 hA7 hW8 => ?_)
  exact ⟨rfl, fun hv hA' => hQ _ _ hR6 hA' (hv _ rfl) (fun ka ja hk => (hW8 ka ja (by omega)))⟩
theorem r_body_2_0 (hF : FS F) (hR : Rg I) {kk aa v0 : Int} (hk : kk = 2) (ha : aa = 0) (hQ : ∀ (r : Int) (I' : pI), Rg I' → AR I' → iR r → (∀ k j, ¬ ((k = 235 ∧ (j = 31 ∨ j = 33)) ∨ k = 249) → I' k j = I k j) → Q (some (vi r)) F I') : CallN G (d + 3) kX12_body [vr 235, vi kk, vi aa, vi v0] NP F I Q := by
  refine CallN_in (fun hok hA => CallN_out ?_)
  have ikk : -2147483648 ≤ kk ∧ kk < 2147483648 := hok (vi kk) (by simp)
  have iaa : -2147483648 ≤ aa ∧ aa < 2147483648 := hok (vi aa) (by simp)
  have iv0 : -2147483648 ≤ v0 ∧ v0 < 2147483648 := hok (vi v0) (by simp)
  refine Call_wp (lv := [some (vr 235), some (vi kk), some (vi aa), some (vi v0), none, none]) (by decide) ckX12_body [] rfl rfl ?_
  refine ⟨_, rfl, (by decide), ?_⟩
  have r1 : 0 ≤ (I 235 32) ∧ (I 235 32) ≤ 13 := Rg.f32 hR
  refine ⟨⟨_, rfl, (by decide)⟩, ?_⟩
  refine r_of (p := (I 235 32)) (f := 2) hF (j := (Int.toNat (306 + 66 * (I 235 32)))) (by omega) (by omega) (by omega) (fun w3 hw4 => ?_)
  have hw4 : w3 = (I 236 (Int.toNat (306 + 66 * (I 235 32)))) := hw4
  refine ⟨fun c => absurd c (show (¬ (((wr ((wr (4 * kk)) + aa)) : Int) = 0)) from by first | omega | (simp only [wr, wl] at *; omega)), fun _ => ?_⟩
  refine ⟨fun c => absurd c (show (¬ (((wr ((wr (4 * kk)) + aa)) : Int) = 1)) from by first | omega | (simp only [wr, wl] at *; omega)), fun _ => ?_⟩
  refine ⟨fun c => absurd c (show (¬ (((wr ((wr (4 * kk)) + aa)) : Int) = 2)) from by first | omega | (simp only [wr, wl] at *; omega)), fun _ => ?_⟩
  refine ⟨fun c => absurd c (show (¬ (((wr ((wr (4 * kk)) + aa)) : Int) = 3)) from by first | omega | (simp only [wr, wl] at *; omega)), fun _ => ?_⟩
  refine ⟨fun c => absurd c (show (¬ (((wr ((wr (4 * kk)) + aa)) : Int) = 4)) from by first | omega | (simp only [wr, wl] at *; omega)), fun _ => ?_⟩
  refine ⟨fun c => absurd c (show (¬ (((wr ((wr (4 * kk)) + aa)) : Int) = 5)) from by first | omega | (simp only [wr, wl] at *; omega)), fun _ => ?_⟩
  refine ⟨fun c => absurd c (show (¬ (((wr ((wr (4 * kk)) + aa)) : Int) = 6)) from by first | omega | (simp only [wr, wl] at *; omega)), fun _ => ?_⟩
  refine ⟨fun c => absurd c (show (¬ (((wr ((wr (4 * kk)) + aa)) : Int) = 7)) from by first | omega | (simp only [wr, wl] at *; omega)), fun _ => ?_⟩
  refine ⟨fun _ => ?_, fun c => absurd (show (((wr ((wr (4 * kk)) + aa)) : Int) = 8) from by first | omega | (simp only [wr, wl] at *; omega)) c⟩
  refine ⟨⟨_, rfl, (by decide)⟩, ?_⟩
  refine r_began  hF hR (fun I5 hR6 hA7 hW8 => ?_)
  refine ⟨⟨_, rfl, (by decide)⟩, ?_⟩
  refine Call_wp (lv := [some (vr 235), some (vi 0), some (vi 0), some (vi v0), none]) (by decide) ckX12_bodyFrom [] rfl rfl ?_
  refine Call_wp (lv := [some (vi 0), some (vi 0)]) (by decide) ckX12_hasOwn [] rfl rfl ?_
  refine ⟨fun _ => ?_, fun c => absurd (show ((0 : Int) = 0) from by decide) c⟩
  refine ⟨rfl, (by decide), ?_⟩
  refine ⟨fun _ => ?_, fun c => absurd c (show (¬ (1 : Int) = 0) from by decide)⟩
  refine ⟨_, rfl, (by decide), ?_⟩
  have u9 : (I5 235 33) = (I 235 33) := hW8 _ _ (by first | decide | omega)
  have a10 : -2147483648 ≤ (I 235 33) ∧ (I 235 33) < 2147483648 := hA.1 _ _
  have a11 : -2147483648 ≤ (I5 235 33) ∧ (I5 235 33) < 2147483648 := hA7.1 _ _
  refine ⟨fun (c12 : (((I5 235 33) : Int) = 0)) => ?_, fun (c12 : (¬ (((I5 235 33) : Int) = 0))) => ?_⟩
  ·
    refine ⟨⟨_, rfl, (by decide)⟩, ?_⟩
    refine r_body_0_0 (kk := 0) (aa := 0) (v0 := v0) hF hR6 (by omega) (by omega) (fun vr13 I14 hR15 hA16 hr18 hW17 => ?_)
    have hr18 : -2147483648 ≤ vr13 ∧ vr13 < 2147483648 := hr18
    refine ⟨rfl, ?_⟩
    refine ⟨(by decide), ?_⟩
    exact ⟨rfl, fun hv hA' => hQ _ _ hR15 hA' (hv _ rfl) (fun ka ja hk => ((hW17 ka ja (by omega))).trans ((hW8 ka ja (by omega))))⟩
  ·
    refine ⟨rfl, ?_⟩
    refine ⟨(by decide), ?_⟩
    exact ⟨rfl, fun hv hA' => hQ _ _ hR6 hA' (hv _ rfl) (fun ka ja hk => (hW8 ka ja (by omega)))⟩
theorem r_body_3_0 (hF : FS F) (hR : Rg I) {kk aa v0 : Int} (hk : kk = 3) (ha : aa = 0) (hQ : ∀ (r : Int) (I' : pI), Rg I' → AR I' → iR r → (∀ k j, ¬ ((k = 235 ∧ (j = 31 ∨ j = 33)) ∨ k = 249) → I' k j = I k j) → Q (some (vi r)) F I') : CallN G (d + 3) kX12_body [vr 235, vi kk, vi aa, vi v0] NP F I Q := by
  refine CallN_in (fun hok hA => CallN_out ?_)
  have ikk : -2147483648 ≤ kk ∧ kk < 2147483648 := hok (vi kk) (by simp)
  have iaa : -2147483648 ≤ aa ∧ aa < 2147483648 := hok (vi aa) (by simp)
  have iv0 : -2147483648 ≤ v0 ∧ v0 < 2147483648 := hok (vi v0) (by simp)
  refine Call_wp (lv := [some (vr 235), some (vi kk), some (vi aa), some (vi v0), none, none]) (by decide) ckX12_body [] rfl rfl ?_
  refine ⟨_, rfl, (by decide), ?_⟩
  have r1 : 0 ≤ (I 235 32) ∧ (I 235 32) ≤ 13 := Rg.f32 hR
  refine ⟨⟨_, rfl, (by decide)⟩, ?_⟩
  refine r_of (p := (I 235 32)) (f := 2) hF (j := (Int.toNat (306 + 66 * (I 235 32)))) (by omega) (by omega) (by omega) (fun w3 hw4 => ?_)
  have hw4 : w3 = (I 236 (Int.toNat (306 + 66 * (I 235 32)))) := hw4
  refine ⟨fun c => absurd c (show (¬ (((wr ((wr (4 * kk)) + aa)) : Int) = 0)) from by first | omega | (simp only [wr, wl] at *; omega)), fun _ => ?_⟩
  refine ⟨fun c => absurd c (show (¬ (((wr ((wr (4 * kk)) + aa)) : Int) = 1)) from by first | omega | (simp only [wr, wl] at *; omega)), fun _ => ?_⟩
  refine ⟨fun c => absurd c (show (¬ (((wr ((wr (4 * kk)) + aa)) : Int) = 2)) from by first | omega | (simp only [wr, wl] at *; omega)), fun _ => ?_⟩
  refine ⟨fun c => absurd c (show (¬ (((wr ((wr (4 * kk)) + aa)) : Int) = 3)) from by first | omega | (simp only [wr, wl] at *; omega)), fun _ => ?_⟩
  refine ⟨fun c => absurd c (show (¬ (((wr ((wr (4 * kk)) + aa)) : Int) = 4)) from by first | omega | (simp only [wr, wl] at *; omega)), fun _ => ?_⟩
  refine ⟨fun c => absurd c (show (¬ (((wr ((wr (4 * kk)) + aa)) : Int) = 5)) from by first | omega | (simp only [wr, wl] at *; omega)), fun _ => ?_⟩
  refine ⟨fun c => absurd c (show (¬ (((wr ((wr (4 * kk)) + aa)) : Int) = 6)) from by first | omega | (simp only [wr, wl] at *; omega)), fun _ => ?_⟩
  refine ⟨fun c => absurd c (show (¬ (((wr ((wr (4 * kk)) + aa)) : Int) = 7)) from by first | omega | (simp only [wr, wl] at *; omega)), fun _ => ?_⟩
  refine ⟨fun c => absurd c (show (¬ (((wr ((wr (4 * kk)) + aa)) : Int) = 8)) from by first | omega | (simp only [wr, wl] at *; omega)), fun _ => ?_⟩
  refine ⟨fun c => absurd c (show (¬ (((wr ((wr (4 * kk)) + aa)) : Int) = 9)) from by first | omega | (simp only [wr, wl] at *; omega)), fun _ => ?_⟩
  refine ⟨fun c => absurd c (show (¬ (((wr ((wr (4 * kk)) + aa)) : Int) = 10)) from by first | omega | (simp only [wr, wl] at *; omega)), fun _ => ?_⟩
  refine ⟨fun c => absurd c (show (¬ (((wr ((wr (4 * kk)) + aa)) : Int) = 11)) from by first | omega | (simp only [wr, wl] at *; omega)), fun _ => ?_⟩
  refine ⟨fun _ => ?_, fun c => absurd (show (((wr ((wr (4 * kk)) + aa)) : Int) = 12) from by first | omega | (simp only [wr, wl] at *; omega)) c⟩
  refine ⟨⟨_, rfl, (by decide)⟩, ?_⟩
  refine r_began  hF hR (fun I5 hR6 hA7 hW8 => ?_)
  refine ⟨⟨_, rfl, (by decide)⟩, ?_⟩
  refine Call_wp (lv := [some (vr 235), some (vi 1), some (vi 0), some (vi v0), none]) (by decide) ckX12_bodyFrom [] rfl rfl ?_
  refine Call_wp (lv := [some (vi 1), some (vi 0)]) (by decide) ckX12_hasOwn [] rfl rfl ?_
  refine ⟨fun c => absurd c (show (¬ ((1 : Int) = 0)) from by decide), fun _ => ?_⟩
  refine ⟨fun _ => ?_, fun c => absurd (show ((1 : Int) = 1) from by decide) c⟩
  refine ⟨fun c => absurd c (show (¬ ((0 : Int) = 1)) from by decide), fun _ => ?_⟩
  refine ⟨fun _ => ?_, fun c => absurd c (show (¬ (0 : Int) = 2) from by decide)⟩
  refine ⟨rfl, (by decide), ?_⟩
  refine ⟨fun c => absurd (show ((0 : Int) = 0) from by decide) c, fun _ => ?_⟩
  refine Call_wp (lv := [some (vi 1)]) (by decide) ckX12_above [] rfl rfl ?_
  refine ⟨fun _ => ?_, fun c => absurd c (show (¬ (1 : Int) = 0) from by decide)⟩
  refine ⟨fun _ => ?_, fun c => absurd c (show (¬ (1 : Int) = 3) from by decide)⟩
  refine ⟨fun _ => ?_, fun c => absurd c (show (¬ (1 : Int) = 5) from by decide)⟩
  refine ⟨rfl, ?_⟩
  refine Call_wp (lv := [some (vi 0), some (vi 0)]) (by decide) ckX12_hasOwn [] rfl rfl ?_
  refine ⟨fun _ => ?_, fun c => absurd (show ((0 : Int) = 0) from by decide) c⟩
  refine ⟨rfl, (by decide), ?_⟩
  refine ⟨fun _ => ?_, fun c => absurd c (show (¬ (1 : Int) = 0) from by decide)⟩
  refine ⟨_, rfl, (by decide), ?_⟩
  have u9 : (I5 235 33) = (I 235 33) := hW8 _ _ (by first | decide | omega)
  have a10 : -2147483648 ≤ (I 235 33) ∧ (I 235 33) < 2147483648 := hA.1 _ _
  have a11 : -2147483648 ≤ (I5 235 33) ∧ (I5 235 33) < 2147483648 := hA7.1 _ _
  refine ⟨fun (c12 : (((I5 235 33) : Int) = 0)) => ?_, fun (c12 : (¬ (((I5 235 33) : Int) = 0))) => ?_⟩
  ·
    refine ⟨⟨_, rfl, (by decide)⟩, ?_⟩
    refine r_body_0_0 (kk := 0) (aa := 0) (v0 := v0) hF hR6 (by omega) (by omega) (fun vr13 I14 hR15 hA16 hr18 hW17 => ?_)
    have hr18 : -2147483648 ≤ vr13 ∧ vr13 < 2147483648 := hr18
    refine ⟨rfl, ?_⟩
    exact ⟨rfl, fun hv hA' => hQ _ _ hR15 hA' (hv _ rfl) (fun ka ja hk => ((hW17 ka ja (by omega))).trans ((hW8 ka ja (by omega))))⟩
  ·
    refine ⟨rfl, ?_⟩
    exact ⟨rfl, fun hv hA' => hQ _ _ hR6 hA' (hv _ rfl) (fun ka ja hk => (hW8 ka ja (by omega)))⟩
theorem r_voiced_0 (hF : FS F) (hR : Rg I) {aa v0 : Int} (ha : aa = 0) (hQ : ∀ (r : Int) (I' : pI), Rg I' → AR I' → iR r → (∀ k j, ¬ ((k = 235 ∧ (j = 31 ∨ j = 33)) ∨ k = 249) → I' k j = I k j) → Q (some (vi r)) F I') : CallN G (d + 5) kX12_voiced [vr 235, vi aa, vi v0] NP F I Q := by
  refine CallN_in (fun hok hA => CallN_out ?_)
  have iaa : -2147483648 ≤ aa ∧ aa < 2147483648 := hok (vi aa) (by simp)
  have iv0 : -2147483648 ≤ v0 ∧ v0 < 2147483648 := hok (vi v0) (by simp)
  refine Call_wp (lv := [some (vr 235), some (vi aa), some (vi v0)]) (by decide) ckX12_voiced [] rfl rfl ?_
  refine ⟨_, rfl, (by decide), ?_⟩
  have r1 : 0 ≤ (I 235 32) ∧ (I 235 32) ≤ 13 := Rg.f32 hR
  refine ⟨⟨_, rfl, (by decide)⟩, ?_⟩
  refine r_of (p := (I 235 32)) (f := 0) hF (j := (Int.toNat (304 + 66 * (I 235 32)))) (by omega) (by omega) (by omega) (fun w3 hw4 => ?_)
  have r5 : 0 ≤ (I 236 (Int.toNat (304 + 66 * (I 235 32)))) ∧ (I 236 (Int.toNat (304 + 66 * (I 235 32)))) ≤ 5 := Pn_p0 (p := (Int.toNat (I 235 32))) (by omega) (by omega) (hR.n (Int.toNat (304 + 66 * (I 235 32))) (by omega))
  have hw4 : w3 = (I 236 (Int.toNat (304 + 66 * (I 235 32)))) := hw4
  refine ⟨⟨_, rfl, (by decide)⟩, ?_⟩
  refine Call_wp (lv := [some (vr 235), some (vi w3), some (vi aa), some (vi v0), none]) (by decide) ckX12_bodyFrom [] rfl rfl ?_
  refine Call_wp (lv := [some (vi w3), some (vi aa)]) (by decide) ckX12_hasOwn [] rfl rfl ?_
  refine ⟨fun (c6 : ((w3 : Int) = 0)) => ?_, fun (c6 : (¬ ((w3 : Int) = 0))) => ?_⟩
  ·
    refine ⟨rfl, (by decide), ?_⟩
    refine ⟨fun _ => ?_, fun c => absurd c (show (¬ (1 : Int) = 0) from by decide)⟩
    refine ⟨_, rfl, (by decide), ?_⟩
    have a7 : -2147483648 ≤ (I 235 33) ∧ (I 235 33) < 2147483648 := hA.1 _ _
    refine ⟨fun (c8 : (((I 235 33) : Int) = 0)) => ?_, fun (c8 : (¬ (((I 235 33) : Int) = 0))) => ?_⟩
    ·
      refine ⟨⟨_, rfl, (by decide)⟩, ?_⟩
      refine r_body_0_0 (kk := w3) (aa := aa) (v0 := v0) hF hR (by omega) (by omega) (fun vr10 I11 hR12 hA13 hr15 hW14 => ?_)
      have hr15 : -2147483648 ≤ vr10 ∧ vr10 < 2147483648 := hr15
      refine ⟨rfl, ?_⟩
      exact ⟨rfl, fun hv hA' => hQ _ _ hR12 hA' (hv _ rfl) (fun ka ja hk => (hW14 ka ja (by omega)))⟩
    ·
      refine ⟨rfl, ?_⟩
      exact ⟨rfl, fun hv hA' => hQ _ _ hR hA' (hv _ rfl) (fun _ _ _ => rfl)⟩
  ·
    refine ⟨fun (c16 : ((w3 : Int) = 1)) => ?_, fun (c16 : (¬ ((w3 : Int) = 1))) => ?_⟩
    ·
      refine ⟨fun c => absurd c (show (¬ ((aa : Int) = 1)) from by first | omega | (simp only [wr, wl] at *; omega)), fun _ => ?_⟩
      refine ⟨fun _ => ?_, fun c => absurd c (show (¬ (aa : Int) = 2) from by first | omega | (simp only [wr, wl] at *; omega))⟩
      refine ⟨rfl, (by decide), ?_⟩
      refine ⟨fun c => absurd (show ((0 : Int) = 0) from by decide) c, fun _ => ?_⟩
      refine Call_wp (lv := [some (vi w3)]) (by decide) ckX12_above [] rfl rfl ?_
      refine ⟨fun _ => ?_, fun c => absurd c (show (¬ (w3 : Int) = 0) from by first | omega | (simp only [wr, wl] at *; omega))⟩
      refine ⟨fun _ => ?_, fun c => absurd c (show (¬ (w3 : Int) = 3) from by first | omega | (simp only [wr, wl] at *; omega))⟩
      refine ⟨fun _ => ?_, fun c => absurd c (show (¬ (w3 : Int) = 5) from by first | omega | (simp only [wr, wl] at *; omega))⟩
      refine ⟨rfl, ?_⟩
      refine Call_wp (lv := [some (vi 0), some (vi aa)]) (by decide) ckX12_hasOwn [] rfl rfl ?_
      refine ⟨fun _ => ?_, fun c => absurd (show ((0 : Int) = 0) from by decide) c⟩
      refine ⟨rfl, (by decide), ?_⟩
      refine ⟨fun _ => ?_, fun c => absurd c (show (¬ (1 : Int) = 0) from by decide)⟩
      refine ⟨_, rfl, (by decide), ?_⟩
      have a18 : -2147483648 ≤ (I 235 33) ∧ (I 235 33) < 2147483648 := hA.1 _ _
      refine ⟨fun (c19 : (((I 235 33) : Int) = 0)) => ?_, fun (c19 : (¬ (((I 235 33) : Int) = 0))) => ?_⟩
      ·
        refine ⟨⟨_, rfl, (by decide)⟩, ?_⟩
        refine r_body_0_0 (kk := 0) (aa := aa) (v0 := v0) hF hR (by omega) (by omega) (fun vr20 I21 hR22 hA23 hr25 hW24 => ?_)
        have hr25 : -2147483648 ≤ vr20 ∧ vr20 < 2147483648 := hr25
        refine ⟨rfl, ?_⟩
        exact ⟨rfl, fun hv hA' => hQ _ _ hR22 hA' (hv _ rfl) (fun ka ja hk => (hW24 ka ja (by omega)))⟩
      ·
        refine ⟨rfl, ?_⟩
        exact ⟨rfl, fun hv hA' => hQ _ _ hR hA' (hv _ rfl) (fun _ _ _ => rfl)⟩
    ·
      refine ⟨fun (c26 : ((w3 : Int) = 2)) => ?_, fun (c26 : (¬ ((w3 : Int) = 2))) => ?_⟩
      ·
        refine ⟨fun _ => ?_, fun c => absurd (show ((aa : Int) = 0) from by first | omega | (simp only [wr, wl] at *; omega)) c⟩
        refine ⟨rfl, (by decide), ?_⟩
        refine ⟨fun _ => ?_, fun c => absurd c (show (¬ (1 : Int) = 0) from by decide)⟩
        refine ⟨_, rfl, (by decide), ?_⟩
        have a27 : -2147483648 ≤ (I 235 33) ∧ (I 235 33) < 2147483648 := hA.1 _ _
        refine ⟨fun (c28 : (((I 235 33) : Int) = 0)) => ?_, fun (c28 : (¬ (((I 235 33) : Int) = 0))) => ?_⟩
        ·
          refine ⟨⟨_, rfl, (by decide)⟩, ?_⟩
          refine r_body_2_0 (kk := w3) (aa := aa) (v0 := v0) hF hR (by omega) (by omega) (fun vr30 I31 hR32 hA33 hr35 hW34 => ?_)
          have hr35 : -2147483648 ≤ vr30 ∧ vr30 < 2147483648 := hr35
          refine ⟨rfl, ?_⟩
          exact ⟨rfl, fun hv hA' => hQ _ _ hR32 hA' (hv _ rfl) (fun ka ja hk => (hW34 ka ja (by omega)))⟩
        ·
          refine ⟨rfl, ?_⟩
          exact ⟨rfl, fun hv hA' => hQ _ _ hR hA' (hv _ rfl) (fun _ _ _ => rfl)⟩
      ·
        refine ⟨fun (c36 : ((w3 : Int) = 3)) => ?_, fun (c36 : (¬ ((w3 : Int) = 3))) => ?_⟩
        ·
          refine ⟨fun _ => ?_, fun c => absurd (show ((aa : Int) = 0) from by first | omega | (simp only [wr, wl] at *; omega)) c⟩
          refine ⟨rfl, (by decide), ?_⟩
          refine ⟨fun _ => ?_, fun c => absurd c (show (¬ (1 : Int) = 0) from by decide)⟩
          refine ⟨_, rfl, (by decide), ?_⟩
          have a37 : -2147483648 ≤ (I 235 33) ∧ (I 235 33) < 2147483648 := hA.1 _ _
          refine ⟨fun (c38 : (((I 235 33) : Int) = 0)) => ?_, fun (c38 : (¬ (((I 235 33) : Int) = 0))) => ?_⟩
          ·
            refine ⟨⟨_, rfl, (by decide)⟩, ?_⟩
            refine r_body_3_0 (kk := w3) (aa := aa) (v0 := v0) hF hR (by omega) (by omega) (fun vr40 I41 hR42 hA43 hr45 hW44 => ?_)
            have hr45 : -2147483648 ≤ vr40 ∧ vr40 < 2147483648 := hr45
            refine ⟨rfl, ?_⟩
            exact ⟨rfl, fun hv hA' => hQ _ _ hR42 hA' (hv _ rfl) (fun ka ja hk => (hW44 ka ja (by omega)))⟩
          ·
            refine ⟨rfl, ?_⟩
            exact ⟨rfl, fun hv hA' => hQ _ _ hR hA' (hv _ rfl) (fun _ _ _ => rfl)⟩
        ·
          refine ⟨fun (c46 : ((w3 : Int) = 4)) => ?_, fun (c46 : (¬ ((w3 : Int) = 4))) => ?_⟩
          ·
            refine ⟨fun _ => ?_, fun c => absurd c (show (¬ (aa : Int) = 2) from by first | omega | (simp only [wr, wl] at *; omega))⟩
            refine ⟨rfl, (by decide), ?_⟩
            refine ⟨fun c => absurd (show ((0 : Int) = 0) from by decide) c, fun _ => ?_⟩
            refine Call_wp (lv := [some (vi w3)]) (by decide) ckX12_above [] rfl rfl ?_
            refine ⟨fun _ => ?_, fun c => absurd c (show (¬ (w3 : Int) = 0) from by first | omega | (simp only [wr, wl] at *; omega))⟩
            refine ⟨fun _ => ?_, fun c => absurd c (show (¬ (w3 : Int) = 3) from by first | omega | (simp only [wr, wl] at *; omega))⟩
            refine ⟨fun _ => ?_, fun c => absurd c (show (¬ (w3 : Int) = 5) from by first | omega | (simp only [wr, wl] at *; omega))⟩
            refine ⟨rfl, ?_⟩
            refine Call_wp (lv := [some (vi 0), some (vi aa)]) (by decide) ckX12_hasOwn [] rfl rfl ?_
            refine ⟨fun _ => ?_, fun c => absurd (show ((0 : Int) = 0) from by decide) c⟩
            refine ⟨rfl, (by decide), ?_⟩
            refine ⟨fun _ => ?_, fun c => absurd c (show (¬ (1 : Int) = 0) from by decide)⟩
            refine ⟨_, rfl, (by decide), ?_⟩
            have a48 : -2147483648 ≤ (I 235 33) ∧ (I 235 33) < 2147483648 := hA.1 _ _
            refine ⟨fun (c49 : (((I 235 33) : Int) = 0)) => ?_, fun (c49 : (¬ (((I 235 33) : Int) = 0))) => ?_⟩
            ·
              refine ⟨⟨_, rfl, (by decide)⟩, ?_⟩
              refine r_body_0_0 (kk := 0) (aa := aa) (v0 := v0) hF hR (by omega) (by omega) (fun vr50 I51 hR52 hA53 hr55 hW54 => ?_)
              have hr55 : -2147483648 ≤ vr50 ∧ vr50 < 2147483648 := hr55
              refine ⟨rfl, ?_⟩
              exact ⟨rfl, fun hv hA' => hQ _ _ hR52 hA' (hv _ rfl) (fun ka ja hk => (hW54 ka ja (by omega)))⟩
            ·
              refine ⟨rfl, ?_⟩
              exact ⟨rfl, fun hv hA' => hQ _ _ hR hA' (hv _ rfl) (fun _ _ _ => rfl)⟩
          ·
            refine ⟨fun c => absurd c (show (¬ ((aa : Int) = 1)) from by first | omega | (simp only [wr, wl] at *; omega)), fun _ => ?_⟩
            refine ⟨fun _ => ?_, fun c => absurd c (show (¬ (aa : Int) = 3) from by first | omega | (simp only [wr, wl] at *; omega))⟩
            refine ⟨rfl, (by decide), ?_⟩
            refine ⟨fun c => absurd (show ((0 : Int) = 0) from by decide) c, fun _ => ?_⟩
            refine Call_wp (lv := [some (vi w3)]) (by decide) ckX12_above [] rfl rfl ?_
            refine ⟨fun _ => ?_, fun c => absurd c (show (¬ (w3 : Int) = 0) from by first | omega | (simp only [wr, wl] at *; omega))⟩
            refine ⟨fun _ => ?_, fun c => absurd c (show (¬ (w3 : Int) = 3) from by first | omega | (simp only [wr, wl] at *; omega))⟩
            refine ⟨fun c => absurd (show ((w3 : Int) = 5) from by first | omega | (simp only [wr, wl] at *; omega)) c, fun _ => ?_⟩
            refine ⟨rfl, ?_⟩
            refine Call_wp (lv := [some (vi 2), some (vi aa)]) (by decide) ckX12_hasOwn [] rfl rfl ?_
            refine ⟨fun c => absurd c (show (¬ ((2 : Int) = 0)) from by decide), fun _ => ?_⟩
            refine ⟨fun c => absurd c (show (¬ ((2 : Int) = 1)) from by decide), fun _ => ?_⟩
            refine ⟨fun _ => ?_, fun c => absurd (show ((2 : Int) = 2) from by decide) c⟩
            refine ⟨fun _ => ?_, fun c => absurd (show ((aa : Int) = 0) from by first | omega | (simp only [wr, wl] at *; omega)) c⟩
            refine ⟨rfl, (by decide), ?_⟩
            refine ⟨fun _ => ?_, fun c => absurd c (show (¬ (1 : Int) = 0) from by decide)⟩
            refine ⟨_, rfl, (by decide), ?_⟩
            have a57 : -2147483648 ≤ (I 235 33) ∧ (I 235 33) < 2147483648 := hA.1 _ _
            refine ⟨fun (c58 : (((I 235 33) : Int) = 0)) => ?_, fun (c58 : (¬ (((I 235 33) : Int) = 0))) => ?_⟩
            ·
              refine ⟨⟨_, rfl, (by decide)⟩, ?_⟩
              refine r_body_2_0 (kk := 2) (aa := aa) (v0 := v0) hF hR (by omega) (by omega) (fun vr59 I60 hR61 hA62 hr64 hW63 => ?_)
              have hr64 : -2147483648 ≤ vr59 ∧ vr59 < 2147483648 := hr64
              refine ⟨rfl, ?_⟩
              exact ⟨rfl, fun hv hA' => hQ _ _ hR61 hA' (hv _ rfl) (fun ka ja hk => (hW63 ka ja (by omega)))⟩
            ·
              refine ⟨rfl, ?_⟩
              exact ⟨rfl, fun hv hA' => hQ _ _ hR hA' (hv _ rfl) (fun _ _ _ => rfl)⟩
theorem r_body_0_1 (hF : FS F) (hR : Rg I) {kk aa v0 : Int} (hk : kk = 0) (ha : aa = 1) (hQ : ∀ (r : Int) (I' : pI), Rg I' → AR I' → iR r → (∀ k j, ¬ ((k = 235 ∧ (j = 31 ∨ j = 33)) ∨ k = 249) → I' k j = I k j) → Q (some (vi r)) F I') : CallN G (d + 6) kX12_body [vr 235, vi kk, vi aa, vi v0] NP F I Q := by
  refine CallN_in (fun hok hA => CallN_out ?_)
  have ikk : -2147483648 ≤ kk ∧ kk < 2147483648 := hok (vi kk) (by simp)
  have iaa : -2147483648 ≤ aa ∧ aa < 2147483648 := hok (vi aa) (by simp)
  have iv0 : -2147483648 ≤ v0 ∧ v0 < 2147483648 := hok (vi v0) (by simp)
  refine Call_wp (lv := [some (vr 235), some (vi kk), some (vi aa), some (vi v0), none, none]) (by decide) ckX12_body [] rfl rfl ?_
  refine ⟨_, rfl, (by decide), ?_⟩
  have r1 : 0 ≤ (I 235 32) ∧ (I 235 32) ≤ 13 := Rg.f32 hR
  refine ⟨⟨_, rfl, (by decide)⟩, ?_⟩
  refine r_of (p := (I 235 32)) (f := 2) hF (j := (Int.toNat (306 + 66 * (I 235 32)))) (by omega) (by omega) (by omega) (fun w3 hw4 => ?_)
  have hw4 : w3 = (I 236 (Int.toNat (306 + 66 * (I 235 32)))) := hw4
  refine ⟨fun c => absurd c (show (¬ (((wr ((wr (4 * kk)) + aa)) : Int) = 0)) from by first | omega | (simp only [wr, wl] at *; omega)), fun _ => ?_⟩
  refine ⟨fun _ => ?_, fun c => absurd (show (((wr ((wr (4 * kk)) + aa)) : Int) = 1) from by first | omega | (simp only [wr, wl] at *; omega)) c⟩
  refine ⟨⟨_, rfl, (by decide)⟩, ?_⟩
  refine r_began  hF hR (fun I5 hR6 hA7 hW8 => ?_)
  refine ⟨⟨_, rfl, (by decide)⟩, ?_⟩
  refine r_voiced_0 (aa := 0) (v0 := v0) hF hR6 (by omega) (fun vr9 I10 hR11 hA12 hr14 hW13 => ?_)
  have hr14 : -2147483648 ≤ vr9 ∧ vr9 < 2147483648 := hr14
  exact ⟨rfl, fun hv hA' => hQ _ _ hR11 hA' (hv _ rfl) (fun ka ja hk => ((hW13 ka ja (by omega))).trans ((hW8 ka ja (by omega))))⟩
theorem r_body_1_1 (hF : FS F) (hR : Rg I) {kk aa v0 : Int} (hk : kk = 1) (ha : aa = 1) (hQ : ∀ (r : Int) (I' : pI), Rg I' → AR I' → iR r → (∀ k j, ¬ ((k = 235 ∧ (j = 31 ∨ j = 33)) ∨ k = 249) → I' k j = I k j) → Q (some (vi r)) F I') : CallN G (d + 8) kX12_body [vr 235, vi kk, vi aa, vi v0] NP F I Q := by
  refine CallN_in (fun hok hA => CallN_out ?_)
  have ikk : -2147483648 ≤ kk ∧ kk < 2147483648 := hok (vi kk) (by simp)
  have iaa : -2147483648 ≤ aa ∧ aa < 2147483648 := hok (vi aa) (by simp)
  have iv0 : -2147483648 ≤ v0 ∧ v0 < 2147483648 := hok (vi v0) (by simp)
  refine Call_wp (lv := [some (vr 235), some (vi kk), some (vi aa), some (vi v0), none, none]) (by decide) ckX12_body [] rfl rfl ?_
  refine ⟨_, rfl, (by decide), ?_⟩
  have r1 : 0 ≤ (I 235 32) ∧ (I 235 32) ≤ 13 := Rg.f32 hR
  refine ⟨⟨_, rfl, (by decide)⟩, ?_⟩
  refine r_of (p := (I 235 32)) (f := 2) hF (j := (Int.toNat (306 + 66 * (I 235 32)))) (by omega) (by omega) (by omega) (fun w3 hw4 => ?_)
  have hw4 : w3 = (I 236 (Int.toNat (306 + 66 * (I 235 32)))) := hw4
  refine ⟨fun c => absurd c (show (¬ (((wr ((wr (4 * kk)) + aa)) : Int) = 0)) from by first | omega | (simp only [wr, wl] at *; omega)), fun _ => ?_⟩
  refine ⟨fun c => absurd c (show (¬ (((wr ((wr (4 * kk)) + aa)) : Int) = 1)) from by first | omega | (simp only [wr, wl] at *; omega)), fun _ => ?_⟩
  refine ⟨fun c => absurd c (show (¬ (((wr ((wr (4 * kk)) + aa)) : Int) = 2)) from by first | omega | (simp only [wr, wl] at *; omega)), fun _ => ?_⟩
  refine ⟨fun c => absurd c (show (¬ (((wr ((wr (4 * kk)) + aa)) : Int) = 3)) from by first | omega | (simp only [wr, wl] at *; omega)), fun _ => ?_⟩
  refine ⟨fun c => absurd c (show (¬ (((wr ((wr (4 * kk)) + aa)) : Int) = 4)) from by first | omega | (simp only [wr, wl] at *; omega)), fun _ => ?_⟩
  refine ⟨fun _ => ?_, fun c => absurd (show (((wr ((wr (4 * kk)) + aa)) : Int) = 5) from by first | omega | (simp only [wr, wl] at *; omega)) c⟩
  refine ⟨⟨_, rfl, (by decide)⟩, ?_⟩
  refine r_began  hF hR (fun I5 hR6 hA7 hW8 => ?_)
  refine ⟨⟨_, rfl, (by decide)⟩, ?_⟩
  refine Call_wp (lv := [some (vr 235), some (vi 0), some (vi 1), some (vi v0), none]) (by decide) ckX12_bodyFrom [] rfl rfl ?_
  refine Call_wp (lv := [some (vi 0), some (vi 1)]) (by decide) ckX12_hasOwn [] rfl rfl ?_
  refine ⟨fun _ => ?_, fun c => absurd (show ((0 : Int) = 0) from by decide) c⟩
  refine ⟨rfl, (by decide), ?_⟩
  refine ⟨fun _ => ?_, fun c => absurd c (show (¬ (1 : Int) = 0) from by decide)⟩
  refine ⟨_, rfl, (by decide), ?_⟩
  have u9 : (I5 235 33) = (I 235 33) := hW8 _ _ (by first | decide | omega)
  have a10 : -2147483648 ≤ (I 235 33) ∧ (I 235 33) < 2147483648 := hA.1 _ _
  have a11 : -2147483648 ≤ (I5 235 33) ∧ (I5 235 33) < 2147483648 := hA7.1 _ _
  refine ⟨fun (c12 : (((I5 235 33) : Int) = 0)) => ?_, fun (c12 : (¬ (((I5 235 33) : Int) = 0))) => ?_⟩
  ·
    refine ⟨⟨_, rfl, (by decide)⟩, ?_⟩
    refine r_body_0_1 (kk := 0) (aa := 1) (v0 := v0) hF hR6 (by omega) (by omega) (fun vr13 I14 hR15 hA16 hr18 hW17 => ?_)
    have hr18 : -2147483648 ≤ vr13 ∧ vr13 < 2147483648 := hr18
    refine ⟨rfl, ?_⟩
    exact ⟨rfl, fun hv hA' => hQ _ _ hR15 hA' (hv _ rfl) (fun ka ja hk => ((hW17 ka ja (by omega))).trans ((hW8 ka ja (by omega))))⟩
  ·
    refine ⟨rfl, ?_⟩
    exact ⟨rfl, fun hv hA' => hQ _ _ hR6 hA' (hv _ rfl) (fun ka ja hk => (hW8 ka ja (by omega)))⟩
theorem r_body_5_1 (hF : FS F) (hR : Rg I) {kk aa v0 : Int} (hk : kk = 5) (ha : aa = 1) (hQ : ∀ (r : Int) (I' : pI), Rg I' → AR I' → iR r → (∀ k j, ¬ ((k = 235 ∧ (j = 31 ∨ j = 33)) ∨ k = 249) → I' k j = I k j) → Q (some (vi r)) F I') : CallN G (d + 8) kX12_body [vr 235, vi kk, vi aa, vi v0] NP F I Q := by
  refine CallN_in (fun hok hA => CallN_out ?_)
  have ikk : -2147483648 ≤ kk ∧ kk < 2147483648 := hok (vi kk) (by simp)
  have iaa : -2147483648 ≤ aa ∧ aa < 2147483648 := hok (vi aa) (by simp)
  have iv0 : -2147483648 ≤ v0 ∧ v0 < 2147483648 := hok (vi v0) (by simp)
  refine Call_wp (lv := [some (vr 235), some (vi kk), some (vi aa), some (vi v0), none, none]) (by decide) ckX12_body [] rfl rfl ?_
  refine ⟨_, rfl, (by decide), ?_⟩
  have r1 : 0 ≤ (I 235 32) ∧ (I 235 32) ≤ 13 := Rg.f32 hR
  refine ⟨⟨_, rfl, (by decide)⟩, ?_⟩
  refine r_of (p := (I 235 32)) (f := 2) hF (j := (Int.toNat (306 + 66 * (I 235 32)))) (by omega) (by omega) (by omega) (fun w3 hw4 => ?_)
  have hw4 : w3 = (I 236 (Int.toNat (306 + 66 * (I 235 32)))) := hw4
  refine ⟨fun c => absurd c (show (¬ (((wr ((wr (4 * kk)) + aa)) : Int) = 0)) from by first | omega | (simp only [wr, wl] at *; omega)), fun _ => ?_⟩
  refine ⟨fun c => absurd c (show (¬ (((wr ((wr (4 * kk)) + aa)) : Int) = 1)) from by first | omega | (simp only [wr, wl] at *; omega)), fun _ => ?_⟩
  refine ⟨fun c => absurd c (show (¬ (((wr ((wr (4 * kk)) + aa)) : Int) = 2)) from by first | omega | (simp only [wr, wl] at *; omega)), fun _ => ?_⟩
  refine ⟨fun c => absurd c (show (¬ (((wr ((wr (4 * kk)) + aa)) : Int) = 3)) from by first | omega | (simp only [wr, wl] at *; omega)), fun _ => ?_⟩
  refine ⟨fun c => absurd c (show (¬ (((wr ((wr (4 * kk)) + aa)) : Int) = 4)) from by first | omega | (simp only [wr, wl] at *; omega)), fun _ => ?_⟩
  refine ⟨fun c => absurd c (show (¬ (((wr ((wr (4 * kk)) + aa)) : Int) = 5)) from by first | omega | (simp only [wr, wl] at *; omega)), fun _ => ?_⟩
  refine ⟨fun c => absurd c (show (¬ (((wr ((wr (4 * kk)) + aa)) : Int) = 6)) from by first | omega | (simp only [wr, wl] at *; omega)), fun _ => ?_⟩
  refine ⟨fun c => absurd c (show (¬ (((wr ((wr (4 * kk)) + aa)) : Int) = 7)) from by first | omega | (simp only [wr, wl] at *; omega)), fun _ => ?_⟩
  refine ⟨fun c => absurd c (show (¬ (((wr ((wr (4 * kk)) + aa)) : Int) = 8)) from by first | omega | (simp only [wr, wl] at *; omega)), fun _ => ?_⟩
  refine ⟨fun c => absurd c (show (¬ (((wr ((wr (4 * kk)) + aa)) : Int) = 9)) from by first | omega | (simp only [wr, wl] at *; omega)), fun _ => ?_⟩
  refine ⟨fun c => absurd c (show (¬ (((wr ((wr (4 * kk)) + aa)) : Int) = 10)) from by first | omega | (simp only [wr, wl] at *; omega)), fun _ => ?_⟩
  refine ⟨fun c => absurd c (show (¬ (((wr ((wr (4 * kk)) + aa)) : Int) = 11)) from by first | omega | (simp only [wr, wl] at *; omega)), fun _ => ?_⟩
  refine ⟨fun c => absurd c (show (¬ (((wr ((wr (4 * kk)) + aa)) : Int) = 12)) from by first | omega | (simp only [wr, wl] at *; omega)), fun _ => ?_⟩
  refine ⟨fun c => absurd c (show (¬ (((wr ((wr (4 * kk)) + aa)) : Int) = 13)) from by first | omega | (simp only [wr, wl] at *; omega)), fun _ => ?_⟩
  refine ⟨fun c => absurd c (show (¬ (((wr ((wr (4 * kk)) + aa)) : Int) = 14)) from by first | omega | (simp only [wr, wl] at *; omega)), fun _ => ?_⟩
  refine ⟨fun c => absurd c (show (¬ (((wr ((wr (4 * kk)) + aa)) : Int) = 15)) from by first | omega | (simp only [wr, wl] at *; omega)), fun _ => ?_⟩
  refine ⟨fun c => absurd c (show (¬ (((wr ((wr (4 * kk)) + aa)) : Int) = 16)) from by first | omega | (simp only [wr, wl] at *; omega)), fun _ => ?_⟩
  refine ⟨fun c => absurd c (show (¬ (((wr ((wr (4 * kk)) + aa)) : Int) = 17)) from by first | omega | (simp only [wr, wl] at *; omega)), fun _ => ?_⟩
  refine ⟨fun c => absurd c (show (¬ (((wr ((wr (4 * kk)) + aa)) : Int) = 18)) from by first | omega | (simp only [wr, wl] at *; omega)), fun _ => ?_⟩
  refine ⟨fun c => absurd c (show (¬ (((wr ((wr (4 * kk)) + aa)) : Int) = 19)) from by first | omega | (simp only [wr, wl] at *; omega)), fun _ => ?_⟩
  refine ⟨fun c => absurd c (show (¬ (((wr ((wr (4 * kk)) + aa)) : Int) = 20)) from by first | omega | (simp only [wr, wl] at *; omega)), fun _ => ?_⟩
  refine ⟨fun _ => ?_, fun c => absurd (show (((wr ((wr (4 * kk)) + aa)) : Int) = 21) from by first | omega | (simp only [wr, wl] at *; omega)) c⟩
  refine ⟨⟨_, rfl, (by decide)⟩, ?_⟩
  refine r_began  hF hR (fun I5 hR6 hA7 hW8 => ?_)
  refine ⟨⟨_, rfl, (by decide)⟩, ?_⟩
  refine Call_wp (lv := [some (vr 235), some (vi 2), some (vi 1), some (vi (wr (v0 - 1))), none]) (by decide) ckX12_bodyFrom [] rfl rfl ?_
  refine Call_wp (lv := [some (vi 2), some (vi 1)]) (by decide) ckX12_hasOwn [] rfl rfl ?_
  refine ⟨fun c => absurd c (show (¬ ((2 : Int) = 0)) from by decide), fun _ => ?_⟩
  refine ⟨fun c => absurd c (show (¬ ((2 : Int) = 1)) from by decide), fun _ => ?_⟩
  refine ⟨fun _ => ?_, fun c => absurd (show ((2 : Int) = 2) from by decide) c⟩
  refine ⟨fun c => absurd c (show (¬ ((1 : Int) = 0)) from by decide), fun _ => ?_⟩
  refine ⟨fun _ => ?_, fun c => absurd c (show (¬ (1 : Int) = 3) from by decide)⟩
  refine ⟨rfl, (by decide), ?_⟩
  refine ⟨fun c => absurd (show ((0 : Int) = 0) from by decide) c, fun _ => ?_⟩
  refine Call_wp (lv := [some (vi 2)]) (by decide) ckX12_above [] rfl rfl ?_
  refine ⟨fun _ => ?_, fun c => absurd c (show (¬ (2 : Int) = 0) from by decide)⟩
  refine ⟨fun _ => ?_, fun c => absurd c (show (¬ (2 : Int) = 3) from by decide)⟩
  refine ⟨fun _ => ?_, fun c => absurd c (show (¬ (2 : Int) = 5) from by decide)⟩
  refine ⟨rfl, ?_⟩
  refine Call_wp (lv := [some (vi 0), some (vi 1)]) (by decide) ckX12_hasOwn [] rfl rfl ?_
  refine ⟨fun _ => ?_, fun c => absurd (show ((0 : Int) = 0) from by decide) c⟩
  refine ⟨rfl, (by decide), ?_⟩
  refine ⟨fun _ => ?_, fun c => absurd c (show (¬ (1 : Int) = 0) from by decide)⟩
  refine ⟨_, rfl, (by decide), ?_⟩
  have u9 : (I5 235 33) = (I 235 33) := hW8 _ _ (by first | decide | omega)
  have a10 : -2147483648 ≤ (I 235 33) ∧ (I 235 33) < 2147483648 := hA.1 _ _
  have a11 : -2147483648 ≤ (I5 235 33) ∧ (I5 235 33) < 2147483648 := hA7.1 _ _
  refine ⟨fun (c12 : (((I5 235 33) : Int) = 0)) => ?_, fun (c12 : (¬ (((I5 235 33) : Int) = 0))) => ?_⟩
  ·
    refine ⟨⟨_, rfl, (by decide)⟩, ?_⟩
    have n13 : -2147483648 ≤ (wr (v0 - 1)) ∧ (wr (v0 - 1)) < 2147483648 := wr_R _
    refine r_body_0_1 (kk := 0) (aa := 1) (v0 := (wr (v0 - 1))) hF hR6 (by omega) (by omega) (fun vr14 I15 hR16 hA17 hr19 hW18 => ?_)
    have hr19 : -2147483648 ≤ vr14 ∧ vr14 < 2147483648 := hr19
    refine ⟨rfl, ?_⟩
    exact ⟨rfl, fun hv hA' => hQ _ _ hR16 hA' (hv _ rfl) (fun ka ja hk => ((hW18 ka ja (by omega))).trans ((hW8 ka ja (by omega))))⟩
  ·
    refine ⟨rfl, ?_⟩
    exact ⟨rfl, fun hv hA' => hQ _ _ hR6 hA' (hv _ rfl) (fun ka ja hk => (hW8 ka ja (by omega)))⟩
theorem r_voiced_1 (hF : FS F) (hR : Rg I) {aa v0 : Int} (ha : aa = 1) (hQ : ∀ (r : Int) (I' : pI), Rg I' → AR I' → iR r → (∀ k j, ¬ ((k = 235 ∧ (j = 31 ∨ j = 33)) ∨ k = 249) → I' k j = I k j) → Q (some (vi r)) F I') : CallN G (d + 10) kX12_voiced [vr 235, vi aa, vi v0] NP F I Q := by
  refine CallN_in (fun hok hA => CallN_out ?_)
  have iaa : -2147483648 ≤ aa ∧ aa < 2147483648 := hok (vi aa) (by simp)
  have iv0 : -2147483648 ≤ v0 ∧ v0 < 2147483648 := hok (vi v0) (by simp)
  refine Call_wp (lv := [some (vr 235), some (vi aa), some (vi v0)]) (by decide) ckX12_voiced [] rfl rfl ?_
  refine ⟨_, rfl, (by decide), ?_⟩
  have r1 : 0 ≤ (I 235 32) ∧ (I 235 32) ≤ 13 := Rg.f32 hR
  refine ⟨⟨_, rfl, (by decide)⟩, ?_⟩
  refine r_of (p := (I 235 32)) (f := 0) hF (j := (Int.toNat (304 + 66 * (I 235 32)))) (by omega) (by omega) (by omega) (fun w3 hw4 => ?_)
  have r5 : 0 ≤ (I 236 (Int.toNat (304 + 66 * (I 235 32)))) ∧ (I 236 (Int.toNat (304 + 66 * (I 235 32)))) ≤ 5 := Pn_p0 (p := (Int.toNat (I 235 32))) (by omega) (by omega) (hR.n (Int.toNat (304 + 66 * (I 235 32))) (by omega))
  have hw4 : w3 = (I 236 (Int.toNat (304 + 66 * (I 235 32)))) := hw4
  refine ⟨⟨_, rfl, (by decide)⟩, ?_⟩
  refine Call_wp (lv := [some (vr 235), some (vi w3), some (vi aa), some (vi v0), none]) (by decide) ckX12_bodyFrom [] rfl rfl ?_
  refine Call_wp (lv := [some (vi w3), some (vi aa)]) (by decide) ckX12_hasOwn [] rfl rfl ?_
  refine ⟨fun (c6 : ((w3 : Int) = 0)) => ?_, fun (c6 : (¬ ((w3 : Int) = 0))) => ?_⟩
  ·
    refine ⟨rfl, (by decide), ?_⟩
    refine ⟨fun _ => ?_, fun c => absurd c (show (¬ (1 : Int) = 0) from by decide)⟩
    refine ⟨_, rfl, (by decide), ?_⟩
    have a7 : -2147483648 ≤ (I 235 33) ∧ (I 235 33) < 2147483648 := hA.1 _ _
    refine ⟨fun (c8 : (((I 235 33) : Int) = 0)) => ?_, fun (c8 : (¬ (((I 235 33) : Int) = 0))) => ?_⟩
    ·
      refine ⟨⟨_, rfl, (by decide)⟩, ?_⟩
      refine r_body_0_1 (kk := w3) (aa := aa) (v0 := v0) hF hR (by omega) (by omega) (fun vr10 I11 hR12 hA13 hr15 hW14 => ?_)
      have hr15 : -2147483648 ≤ vr10 ∧ vr10 < 2147483648 := hr15
      refine ⟨rfl, ?_⟩
      exact ⟨rfl, fun hv hA' => hQ _ _ hR12 hA' (hv _ rfl) (fun ka ja hk => (hW14 ka ja (by omega)))⟩
    ·
      refine ⟨rfl, ?_⟩
      exact ⟨rfl, fun hv hA' => hQ _ _ hR hA' (hv _ rfl) (fun _ _ _ => rfl)⟩
  ·
    refine ⟨fun (c16 : ((w3 : Int) = 1)) => ?_, fun (c16 : (¬ ((w3 : Int) = 1))) => ?_⟩
    ·
      refine ⟨fun _ => ?_, fun c => absurd (show ((aa : Int) = 1) from by first | omega | (simp only [wr, wl] at *; omega)) c⟩
      refine ⟨rfl, (by decide), ?_⟩
      refine ⟨fun _ => ?_, fun c => absurd c (show (¬ (1 : Int) = 0) from by decide)⟩
      refine ⟨_, rfl, (by decide), ?_⟩
      have a17 : -2147483648 ≤ (I 235 33) ∧ (I 235 33) < 2147483648 := hA.1 _ _
      refine ⟨fun (c18 : (((I 235 33) : Int) = 0)) => ?_, fun (c18 : (¬ (((I 235 33) : Int) = 0))) => ?_⟩
      ·
        refine ⟨⟨_, rfl, (by decide)⟩, ?_⟩
        refine r_body_1_1 (kk := w3) (aa := aa) (v0 := v0) hF hR (by omega) (by omega) (fun vr20 I21 hR22 hA23 hr25 hW24 => ?_)
        have hr25 : -2147483648 ≤ vr20 ∧ vr20 < 2147483648 := hr25
        refine ⟨rfl, ?_⟩
        exact ⟨rfl, fun hv hA' => hQ _ _ hR22 hA' (hv _ rfl) (fun ka ja hk => (hW24 ka ja (by omega)))⟩
      ·
        refine ⟨rfl, ?_⟩
        exact ⟨rfl, fun hv hA' => hQ _ _ hR hA' (hv _ rfl) (fun _ _ _ => rfl)⟩
    ·
      refine ⟨fun (c26 : ((w3 : Int) = 2)) => ?_, fun (c26 : (¬ ((w3 : Int) = 2))) => ?_⟩
      ·
        refine ⟨fun c => absurd c (show (¬ ((aa : Int) = 0)) from by first | omega | (simp only [wr, wl] at *; omega)), fun _ => ?_⟩
        refine ⟨fun _ => ?_, fun c => absurd c (show (¬ (aa : Int) = 3) from by first | omega | (simp only [wr, wl] at *; omega))⟩
        refine ⟨rfl, (by decide), ?_⟩
        refine ⟨fun c => absurd (show ((0 : Int) = 0) from by decide) c, fun _ => ?_⟩
        refine Call_wp (lv := [some (vi w3)]) (by decide) ckX12_above [] rfl rfl ?_
        refine ⟨fun _ => ?_, fun c => absurd c (show (¬ (w3 : Int) = 0) from by first | omega | (simp only [wr, wl] at *; omega))⟩
        refine ⟨fun _ => ?_, fun c => absurd c (show (¬ (w3 : Int) = 3) from by first | omega | (simp only [wr, wl] at *; omega))⟩
        refine ⟨fun _ => ?_, fun c => absurd c (show (¬ (w3 : Int) = 5) from by first | omega | (simp only [wr, wl] at *; omega))⟩
        refine ⟨rfl, ?_⟩
        refine Call_wp (lv := [some (vi 0), some (vi aa)]) (by decide) ckX12_hasOwn [] rfl rfl ?_
        refine ⟨fun _ => ?_, fun c => absurd (show ((0 : Int) = 0) from by decide) c⟩
        refine ⟨rfl, (by decide), ?_⟩
        refine ⟨fun _ => ?_, fun c => absurd c (show (¬ (1 : Int) = 0) from by decide)⟩
        refine ⟨_, rfl, (by decide), ?_⟩
        have a28 : -2147483648 ≤ (I 235 33) ∧ (I 235 33) < 2147483648 := hA.1 _ _
        refine ⟨fun (c29 : (((I 235 33) : Int) = 0)) => ?_, fun (c29 : (¬ (((I 235 33) : Int) = 0))) => ?_⟩
        ·
          refine ⟨⟨_, rfl, (by decide)⟩, ?_⟩
          refine r_body_0_1 (kk := 0) (aa := aa) (v0 := v0) hF hR (by omega) (by omega) (fun vr30 I31 hR32 hA33 hr35 hW34 => ?_)
          have hr35 : -2147483648 ≤ vr30 ∧ vr30 < 2147483648 := hr35
          refine ⟨rfl, ?_⟩
          exact ⟨rfl, fun hv hA' => hQ _ _ hR32 hA' (hv _ rfl) (fun ka ja hk => (hW34 ka ja (by omega)))⟩
        ·
          refine ⟨rfl, ?_⟩
          exact ⟨rfl, fun hv hA' => hQ _ _ hR hA' (hv _ rfl) (fun _ _ _ => rfl)⟩
      ·
        refine ⟨fun (c36 : ((w3 : Int) = 3)) => ?_, fun (c36 : (¬ ((w3 : Int) = 3))) => ?_⟩
        ·
          refine ⟨fun c => absurd c (show (¬ ((aa : Int) = 0)) from by first | omega | (simp only [wr, wl] at *; omega)), fun _ => ?_⟩
          refine ⟨fun _ => ?_, fun c => absurd c (show (¬ (aa : Int) = 2) from by first | omega | (simp only [wr, wl] at *; omega))⟩
          refine ⟨rfl, (by decide), ?_⟩
          refine ⟨fun c => absurd (show ((0 : Int) = 0) from by decide) c, fun _ => ?_⟩
          refine Call_wp (lv := [some (vi w3)]) (by decide) ckX12_above [] rfl rfl ?_
          refine ⟨fun _ => ?_, fun c => absurd c (show (¬ (w3 : Int) = 0) from by first | omega | (simp only [wr, wl] at *; omega))⟩
          refine ⟨fun c => absurd (show ((w3 : Int) = 3) from by first | omega | (simp only [wr, wl] at *; omega)) c, fun _ => ?_⟩
          refine ⟨rfl, ?_⟩
          refine Call_wp (lv := [some (vi 1), some (vi aa)]) (by decide) ckX12_hasOwn [] rfl rfl ?_
          refine ⟨fun c => absurd c (show (¬ ((1 : Int) = 0)) from by decide), fun _ => ?_⟩
          refine ⟨fun _ => ?_, fun c => absurd (show ((1 : Int) = 1) from by decide) c⟩
          refine ⟨fun _ => ?_, fun c => absurd (show ((aa : Int) = 1) from by first | omega | (simp only [wr, wl] at *; omega)) c⟩
          refine ⟨rfl, (by decide), ?_⟩
          refine ⟨fun _ => ?_, fun c => absurd c (show (¬ (1 : Int) = 0) from by decide)⟩
          refine ⟨_, rfl, (by decide), ?_⟩
          have a38 : -2147483648 ≤ (I 235 33) ∧ (I 235 33) < 2147483648 := hA.1 _ _
          refine ⟨fun (c39 : (((I 235 33) : Int) = 0)) => ?_, fun (c39 : (¬ (((I 235 33) : Int) = 0))) => ?_⟩
          ·
            refine ⟨⟨_, rfl, (by decide)⟩, ?_⟩
            refine r_body_1_1 (kk := 1) (aa := aa) (v0 := v0) hF hR (by omega) (by omega) (fun vr40 I41 hR42 hA43 hr45 hW44 => ?_)
            have hr45 : -2147483648 ≤ vr40 ∧ vr40 < 2147483648 := hr45
            refine ⟨rfl, ?_⟩
            exact ⟨rfl, fun hv hA' => hQ _ _ hR42 hA' (hv _ rfl) (fun ka ja hk => (hW44 ka ja (by omega)))⟩
          ·
            refine ⟨rfl, ?_⟩
            exact ⟨rfl, fun hv hA' => hQ _ _ hR hA' (hv _ rfl) (fun _ _ _ => rfl)⟩
        ·
          refine ⟨fun (c46 : ((w3 : Int) = 4)) => ?_, fun (c46 : (¬ ((w3 : Int) = 4))) => ?_⟩
          ·
            refine ⟨fun _ => ?_, fun c => absurd c (show (¬ (aa : Int) = 2) from by first | omega | (simp only [wr, wl] at *; omega))⟩
            refine ⟨rfl, (by decide), ?_⟩
            refine ⟨fun c => absurd (show ((0 : Int) = 0) from by decide) c, fun _ => ?_⟩
            refine Call_wp (lv := [some (vi w3)]) (by decide) ckX12_above [] rfl rfl ?_
            refine ⟨fun _ => ?_, fun c => absurd c (show (¬ (w3 : Int) = 0) from by first | omega | (simp only [wr, wl] at *; omega))⟩
            refine ⟨fun _ => ?_, fun c => absurd c (show (¬ (w3 : Int) = 3) from by first | omega | (simp only [wr, wl] at *; omega))⟩
            refine ⟨fun _ => ?_, fun c => absurd c (show (¬ (w3 : Int) = 5) from by first | omega | (simp only [wr, wl] at *; omega))⟩
            refine ⟨rfl, ?_⟩
            refine Call_wp (lv := [some (vi 0), some (vi aa)]) (by decide) ckX12_hasOwn [] rfl rfl ?_
            refine ⟨fun _ => ?_, fun c => absurd (show ((0 : Int) = 0) from by decide) c⟩
            refine ⟨rfl, (by decide), ?_⟩
            refine ⟨fun _ => ?_, fun c => absurd c (show (¬ (1 : Int) = 0) from by decide)⟩
            refine ⟨_, rfl, (by decide), ?_⟩
            have a48 : -2147483648 ≤ (I 235 33) ∧ (I 235 33) < 2147483648 := hA.1 _ _
            refine ⟨fun (c49 : (((I 235 33) : Int) = 0)) => ?_, fun (c49 : (¬ (((I 235 33) : Int) = 0))) => ?_⟩
            ·
              refine ⟨⟨_, rfl, (by decide)⟩, ?_⟩
              refine r_body_0_1 (kk := 0) (aa := aa) (v0 := v0) hF hR (by omega) (by omega) (fun vr50 I51 hR52 hA53 hr55 hW54 => ?_)
              have hr55 : -2147483648 ≤ vr50 ∧ vr50 < 2147483648 := hr55
              refine ⟨rfl, ?_⟩
              exact ⟨rfl, fun hv hA' => hQ _ _ hR52 hA' (hv _ rfl) (fun ka ja hk => (hW54 ka ja (by omega)))⟩
            ·
              refine ⟨rfl, ?_⟩
              exact ⟨rfl, fun hv hA' => hQ _ _ hR hA' (hv _ rfl) (fun _ _ _ => rfl)⟩
          ·
            refine ⟨fun _ => ?_, fun c => absurd (show ((aa : Int) = 1) from by first | omega | (simp only [wr, wl] at *; omega)) c⟩
            refine ⟨rfl, (by decide), ?_⟩
            refine ⟨fun _ => ?_, fun c => absurd c (show (¬ (1 : Int) = 0) from by decide)⟩
            refine ⟨_, rfl, (by decide), ?_⟩
            have a56 : -2147483648 ≤ (I 235 33) ∧ (I 235 33) < 2147483648 := hA.1 _ _
            refine ⟨fun (c57 : (((I 235 33) : Int) = 0)) => ?_, fun (c57 : (¬ (((I 235 33) : Int) = 0))) => ?_⟩
            ·
              refine ⟨⟨_, rfl, (by decide)⟩, ?_⟩
              refine r_body_5_1 (kk := w3) (aa := aa) (v0 := v0) hF hR (by omega) (by omega) (fun vr59 I60 hR61 hA62 hr64 hW63 => ?_)
              have hr64 : -2147483648 ≤ vr59 ∧ vr59 < 2147483648 := hr64
              refine ⟨rfl, ?_⟩
              exact ⟨rfl, fun hv hA' => hQ _ _ hR61 hA' (hv _ rfl) (fun ka ja hk => (hW63 ka ja (by omega)))⟩
            ·
              refine ⟨rfl, ?_⟩
              exact ⟨rfl, fun hv hA' => hQ _ _ hR hA' (hv _ rfl) (fun _ _ _ => rfl)⟩
theorem r_body_0_2 (hF : FS F) (hR : Rg I) {kk aa v0 : Int} (hk : kk = 0) (ha : aa = 2) (hQ : ∀ (r : Int) (I' : pI), Rg I' → AR I' → iR r → (∀ k j, ¬ ((k = 235 ∧ (j = 31 ∨ j = 33)) ∨ k = 249) → I' k j = I k j) → Q (some (vi r)) F I') : CallN G (d + 11) kX12_body [vr 235, vi kk, vi aa, vi v0] NP F I Q := by
  refine CallN_in (fun hok hA => CallN_out ?_)
  have ikk : -2147483648 ≤ kk ∧ kk < 2147483648 := hok (vi kk) (by simp)
  have iaa : -2147483648 ≤ aa ∧ aa < 2147483648 := hok (vi aa) (by simp)
  have iv0 : -2147483648 ≤ v0 ∧ v0 < 2147483648 := hok (vi v0) (by simp)
  refine Call_wp (lv := [some (vr 235), some (vi kk), some (vi aa), some (vi v0), none, none]) (by decide) ckX12_body [] rfl rfl ?_
  refine ⟨_, rfl, (by decide), ?_⟩
  have r1 : 0 ≤ (I 235 32) ∧ (I 235 32) ≤ 13 := Rg.f32 hR
  refine ⟨⟨_, rfl, (by decide)⟩, ?_⟩
  refine r_of (p := (I 235 32)) (f := 2) hF (j := (Int.toNat (306 + 66 * (I 235 32)))) (by omega) (by omega) (by omega) (fun w3 hw4 => ?_)
  have hw4 : w3 = (I 236 (Int.toNat (306 + 66 * (I 235 32)))) := hw4
  refine ⟨fun c => absurd c (show (¬ (((wr ((wr (4 * kk)) + aa)) : Int) = 0)) from by first | omega | (simp only [wr, wl] at *; omega)), fun _ => ?_⟩
  refine ⟨fun c => absurd c (show (¬ (((wr ((wr (4 * kk)) + aa)) : Int) = 1)) from by first | omega | (simp only [wr, wl] at *; omega)), fun _ => ?_⟩
  refine ⟨fun _ => ?_, fun c => absurd (show (((wr ((wr (4 * kk)) + aa)) : Int) = 2) from by first | omega | (simp only [wr, wl] at *; omega)) c⟩
  refine ⟨⟨_, rfl, (by decide)⟩, ?_⟩
  refine r_began  hF hR (fun I5 hR6 hA7 hW8 => ?_)
  refine ⟨⟨_, rfl, (by decide)⟩, ?_⟩
  refine r_voiced_1 (aa := 1) (v0 := v0) hF hR6 (by omega) (fun vr9 I10 hR11 hA12 hr14 hW13 => ?_)
  have hr14 : -2147483648 ≤ vr9 ∧ vr9 < 2147483648 := hr14
  refine ⟨_, rfl, (by decide), ?_⟩
  have u15 : (I5 235 32) = (I 235 32) := hW8 _ _ (by first | decide | omega)
  have a16 : -2147483648 ≤ (I5 235 32) ∧ (I5 235 32) < 2147483648 := hA7.1 _ _
  have r17 : 0 ≤ (I5 235 32) ∧ (I5 235 32) ≤ 13 := Rg.f32 hR6
  have u18 : (I10 235 32) = (I5 235 32) := hW13 _ _ (by first | decide | omega)
  have a19 : -2147483648 ≤ (I10 235 32) ∧ (I10 235 32) < 2147483648 := hA12.1 _ _
  have r20 : 0 ≤ (I10 235 32) ∧ (I10 235 32) ≤ 13 := Rg.f32 hR11
  exact ⟨rfl, fun hv hA' => hQ _ _ hR11 hA' (hv _ rfl) (fun ka ja hk => ((hW13 ka ja (by omega))).trans ((hW8 ka ja (by omega))))⟩
theorem r_body_1_2 (hF : FS F) (hR : Rg I) {kk aa v0 : Int} (hk : kk = 1) (ha : aa = 2) (hQ : ∀ (r : Int) (I' : pI), Rg I' → AR I' → iR r → (∀ k j, ¬ ((k = 235 ∧ (j = 31 ∨ j = 33)) ∨ k = 249) → I' k j = I k j) → Q (some (vi r)) F I') : CallN G (d + 13) kX12_body [vr 235, vi kk, vi aa, vi v0] NP F I Q := by
  refine CallN_in (fun hok hA => CallN_out ?_)
  have ikk : -2147483648 ≤ kk ∧ kk < 2147483648 := hok (vi kk) (by simp)
  have iaa : -2147483648 ≤ aa ∧ aa < 2147483648 := hok (vi aa) (by simp)
  have iv0 : -2147483648 ≤ v0 ∧ v0 < 2147483648 := hok (vi v0) (by simp)
  refine Call_wp (lv := [some (vr 235), some (vi kk), some (vi aa), some (vi v0), none, none]) (by decide) ckX12_body [] rfl rfl ?_
  refine ⟨_, rfl, (by decide), ?_⟩
  have r1 : 0 ≤ (I 235 32) ∧ (I 235 32) ≤ 13 := Rg.f32 hR
  refine ⟨⟨_, rfl, (by decide)⟩, ?_⟩
  refine r_of (p := (I 235 32)) (f := 2) hF (j := (Int.toNat (306 + 66 * (I 235 32)))) (by omega) (by omega) (by omega) (fun w3 hw4 => ?_)
  have hw4 : w3 = (I 236 (Int.toNat (306 + 66 * (I 235 32)))) := hw4
  refine ⟨fun c => absurd c (show (¬ (((wr ((wr (4 * kk)) + aa)) : Int) = 0)) from by first | omega | (simp only [wr, wl] at *; omega)), fun _ => ?_⟩
  refine ⟨fun c => absurd c (show (¬ (((wr ((wr (4 * kk)) + aa)) : Int) = 1)) from by first | omega | (simp only [wr, wl] at *; omega)), fun _ => ?_⟩
  refine ⟨fun c => absurd c (show (¬ (((wr ((wr (4 * kk)) + aa)) : Int) = 2)) from by first | omega | (simp only [wr, wl] at *; omega)), fun _ => ?_⟩
  refine ⟨fun c => absurd c (show (¬ (((wr ((wr (4 * kk)) + aa)) : Int) = 3)) from by first | omega | (simp only [wr, wl] at *; omega)), fun _ => ?_⟩
  refine ⟨fun c => absurd c (show (¬ (((wr ((wr (4 * kk)) + aa)) : Int) = 4)) from by first | omega | (simp only [wr, wl] at *; omega)), fun _ => ?_⟩
  refine ⟨fun c => absurd c (show (¬ (((wr ((wr (4 * kk)) + aa)) : Int) = 5)) from by first | omega | (simp only [wr, wl] at *; omega)), fun _ => ?_⟩
  refine ⟨fun _ => ?_, fun c => absurd (show (((wr ((wr (4 * kk)) + aa)) : Int) = 6) from by first | omega | (simp only [wr, wl] at *; omega)) c⟩
  refine ⟨⟨_, rfl, (by decide)⟩, ?_⟩
  refine r_began  hF hR (fun I5 hR6 hA7 hW8 => ?_)
  refine ⟨⟨_, rfl, (by decide)⟩, ?_⟩
  refine Call_wp (lv := [some (vr 235), some (vi 0), some (vi 2), some (vi v0), none]) (by decide) ckX12_bodyFrom [] rfl rfl ?_
  refine Call_wp (lv := [some (vi 0), some (vi 2)]) (by decide) ckX12_hasOwn [] rfl rfl ?_
  refine ⟨fun _ => ?_, fun c => absurd (show ((0 : Int) = 0) from by decide) c⟩
  refine ⟨rfl, (by decide), ?_⟩
  refine ⟨fun _ => ?_, fun c => absurd c (show (¬ (1 : Int) = 0) from by decide)⟩
  refine ⟨_, rfl, (by decide), ?_⟩
  have u9 : (I5 235 33) = (I 235 33) := hW8 _ _ (by first | decide | omega)
  have a10 : -2147483648 ≤ (I 235 33) ∧ (I 235 33) < 2147483648 := hA.1 _ _
  have a11 : -2147483648 ≤ (I5 235 33) ∧ (I5 235 33) < 2147483648 := hA7.1 _ _
  refine ⟨fun (c12 : (((I5 235 33) : Int) = 0)) => ?_, fun (c12 : (¬ (((I5 235 33) : Int) = 0))) => ?_⟩
  ·
    refine ⟨⟨_, rfl, (by decide)⟩, ?_⟩
    refine r_body_0_2 (kk := 0) (aa := 2) (v0 := v0) hF hR6 (by omega) (by omega) (fun vr13 I14 hR15 hA16 hr18 hW17 => ?_)
    have hr18 : -2147483648 ≤ vr13 ∧ vr13 < 2147483648 := hr18
    refine ⟨rfl, ?_⟩
    exact ⟨rfl, fun hv hA' => hQ _ _ hR15 hA' (hv _ rfl) (fun ka ja hk => ((hW17 ka ja (by omega))).trans ((hW8 ka ja (by omega))))⟩
  ·
    refine ⟨rfl, ?_⟩
    exact ⟨rfl, fun hv hA' => hQ _ _ hR6 hA' (hv _ rfl) (fun ka ja hk => (hW8 ka ja (by omega)))⟩
theorem r_body_3_2 (hF : FS F) (hR : Rg I) {kk aa v0 : Int} (hk : kk = 3) (ha : aa = 2) (hQ : ∀ (r : Int) (I' : pI), Rg I' → AR I' → iR r → (∀ k j, ¬ ((k = 235 ∧ (j = 31 ∨ j = 33)) ∨ k = 249) → I' k j = I k j) → Q (some (vi r)) F I') : CallN G (d + 15) kX12_body [vr 235, vi kk, vi aa, vi v0] NP F I Q := by
  refine CallN_in (fun hok hA => CallN_out ?_)
  have ikk : -2147483648 ≤ kk ∧ kk < 2147483648 := hok (vi kk) (by simp)
  have iaa : -2147483648 ≤ aa ∧ aa < 2147483648 := hok (vi aa) (by simp)
  have iv0 : -2147483648 ≤ v0 ∧ v0 < 2147483648 := hok (vi v0) (by simp)
  refine Call_wp (lv := [some (vr 235), some (vi kk), some (vi aa), some (vi v0), none, none]) (by decide) ckX12_body [] rfl rfl ?_
  refine ⟨_, rfl, (by decide), ?_⟩
  have r1 : 0 ≤ (I 235 32) ∧ (I 235 32) ≤ 13 := Rg.f32 hR
  refine ⟨⟨_, rfl, (by decide)⟩, ?_⟩
  refine r_of (p := (I 235 32)) (f := 2) hF (j := (Int.toNat (306 + 66 * (I 235 32)))) (by omega) (by omega) (by omega) (fun w3 hw4 => ?_)
  have hw4 : w3 = (I 236 (Int.toNat (306 + 66 * (I 235 32)))) := hw4
  refine ⟨fun c => absurd c (show (¬ (((wr ((wr (4 * kk)) + aa)) : Int) = 0)) from by first | omega | (simp only [wr, wl] at *; omega)), fun _ => ?_⟩
  refine ⟨fun c => absurd c (show (¬ (((wr ((wr (4 * kk)) + aa)) : Int) = 1)) from by first | omega | (simp only [wr, wl] at *; omega)), fun _ => ?_⟩
  refine ⟨fun c => absurd c (show (¬ (((wr ((wr (4 * kk)) + aa)) : Int) = 2)) from by first | omega | (simp only [wr, wl] at *; omega)), fun _ => ?_⟩
  refine ⟨fun c => absurd c (show (¬ (((wr ((wr (4 * kk)) + aa)) : Int) = 3)) from by first | omega | (simp only [wr, wl] at *; omega)), fun _ => ?_⟩
  refine ⟨fun c => absurd c (show (¬ (((wr ((wr (4 * kk)) + aa)) : Int) = 4)) from by first | omega | (simp only [wr, wl] at *; omega)), fun _ => ?_⟩
  refine ⟨fun c => absurd c (show (¬ (((wr ((wr (4 * kk)) + aa)) : Int) = 5)) from by first | omega | (simp only [wr, wl] at *; omega)), fun _ => ?_⟩
  refine ⟨fun c => absurd c (show (¬ (((wr ((wr (4 * kk)) + aa)) : Int) = 6)) from by first | omega | (simp only [wr, wl] at *; omega)), fun _ => ?_⟩
  refine ⟨fun c => absurd c (show (¬ (((wr ((wr (4 * kk)) + aa)) : Int) = 7)) from by first | omega | (simp only [wr, wl] at *; omega)), fun _ => ?_⟩
  refine ⟨fun c => absurd c (show (¬ (((wr ((wr (4 * kk)) + aa)) : Int) = 8)) from by first | omega | (simp only [wr, wl] at *; omega)), fun _ => ?_⟩
  refine ⟨fun c => absurd c (show (¬ (((wr ((wr (4 * kk)) + aa)) : Int) = 9)) from by first | omega | (simp only [wr, wl] at *; omega)), fun _ => ?_⟩
  refine ⟨fun c => absurd c (show (¬ (((wr ((wr (4 * kk)) + aa)) : Int) = 10)) from by first | omega | (simp only [wr, wl] at *; omega)), fun _ => ?_⟩
  refine ⟨fun c => absurd c (show (¬ (((wr ((wr (4 * kk)) + aa)) : Int) = 11)) from by first | omega | (simp only [wr, wl] at *; omega)), fun _ => ?_⟩
  refine ⟨fun c => absurd c (show (¬ (((wr ((wr (4 * kk)) + aa)) : Int) = 12)) from by first | omega | (simp only [wr, wl] at *; omega)), fun _ => ?_⟩
  refine ⟨fun c => absurd c (show (¬ (((wr ((wr (4 * kk)) + aa)) : Int) = 13)) from by first | omega | (simp only [wr, wl] at *; omega)), fun _ => ?_⟩
  refine ⟨fun _ => ?_, fun c => absurd (show (((wr ((wr (4 * kk)) + aa)) : Int) = 14) from by first | omega | (simp only [wr, wl] at *; omega)) c⟩
  refine ⟨⟨_, rfl, (by decide)⟩, ?_⟩
  refine r_began  hF hR (fun I5 hR6 hA7 hW8 => ?_)
  refine ⟨⟨_, rfl, (by decide)⟩, ?_⟩
  refine Call_wp (lv := [some (vr 235), some (vi 1), some (vi 2), some (vi v0), none]) (by decide) ckX12_bodyFrom [] rfl rfl ?_
  refine Call_wp (lv := [some (vi 1), some (vi 2)]) (by decide) ckX12_hasOwn [] rfl rfl ?_
  refine ⟨fun c => absurd c (show (¬ ((1 : Int) = 0)) from by decide), fun _ => ?_⟩
  refine ⟨fun _ => ?_, fun c => absurd (show ((1 : Int) = 1) from by decide) c⟩
  refine ⟨fun c => absurd c (show (¬ ((2 : Int) = 1)) from by decide), fun _ => ?_⟩
  refine ⟨fun c => absurd (show ((2 : Int) = 2) from by decide) c, fun _ => ?_⟩
  refine ⟨rfl, (by decide), ?_⟩
  refine ⟨fun _ => ?_, fun c => absurd c (show (¬ (1 : Int) = 0) from by decide)⟩
  refine ⟨_, rfl, (by decide), ?_⟩
  have u9 : (I5 235 33) = (I 235 33) := hW8 _ _ (by first | decide | omega)
  have a10 : -2147483648 ≤ (I 235 33) ∧ (I 235 33) < 2147483648 := hA.1 _ _
  have a11 : -2147483648 ≤ (I5 235 33) ∧ (I5 235 33) < 2147483648 := hA7.1 _ _
  refine ⟨fun (c12 : (((I5 235 33) : Int) = 0)) => ?_, fun (c12 : (¬ (((I5 235 33) : Int) = 0))) => ?_⟩
  ·
    refine ⟨⟨_, rfl, (by decide)⟩, ?_⟩
    refine r_body_1_2 (kk := 1) (aa := 2) (v0 := v0) hF hR6 (by omega) (by omega) (fun vr13 I14 hR15 hA16 hr18 hW17 => ?_)
    have hr18 : -2147483648 ≤ vr13 ∧ vr13 < 2147483648 := hr18
    refine ⟨rfl, ?_⟩
    refine ⟨⟨_, rfl, (by decide)⟩, ?_⟩
    refine r_voiced_0 (aa := 0) (v0 := 2) hF hR15 (by omega) (fun vr19 I20 hR21 hA22 hr24 hW23 => ?_)
    have hr24 : -2147483648 ≤ vr19 ∧ vr19 < 2147483648 := hr24
    exact ⟨rfl, fun hv hA' => hQ _ _ hR21 hA' (hv _ rfl) (fun ka ja hk => ((hW23 ka ja (by omega))).trans (((hW17 ka ja (by omega))).trans ((hW8 ka ja (by omega)))))⟩
  ·
    refine ⟨rfl, ?_⟩
    refine ⟨⟨_, rfl, (by decide)⟩, ?_⟩
    refine r_voiced_0 (aa := 0) (v0 := 2) hF hR6 (by omega) (fun vr25 I26 hR27 hA28 hr30 hW29 => ?_)
    have hr30 : -2147483648 ≤ vr25 ∧ vr25 < 2147483648 := hr30
    exact ⟨rfl, fun hv hA' => hQ _ _ hR27 hA' (hv _ rfl) (fun ka ja hk => ((hW29 ka ja (by omega))).trans ((hW8 ka ja (by omega))))⟩
theorem r_body_4_2 (hF : FS F) (hR : Rg I) {kk aa v0 : Int} (hk : kk = 4) (ha : aa = 2) (hQ : ∀ (r : Int) (I' : pI), Rg I' → AR I' → iR r → (∀ k j, ¬ ((k = 235 ∧ (j = 31 ∨ j = 33)) ∨ k = 249) → I' k j = I k j) → Q (some (vi r)) F I') : CallN G (d + 13) kX12_body [vr 235, vi kk, vi aa, vi v0] NP F I Q := by
  refine CallN_in (fun hok hA => CallN_out ?_)
  have ikk : -2147483648 ≤ kk ∧ kk < 2147483648 := hok (vi kk) (by simp)
  have iaa : -2147483648 ≤ aa ∧ aa < 2147483648 := hok (vi aa) (by simp)
  have iv0 : -2147483648 ≤ v0 ∧ v0 < 2147483648 := hok (vi v0) (by simp)
  refine Call_wp (lv := [some (vr 235), some (vi kk), some (vi aa), some (vi v0), none, none]) (by decide) ckX12_body [] rfl rfl ?_
  refine ⟨_, rfl, (by decide), ?_⟩
  have r1 : 0 ≤ (I 235 32) ∧ (I 235 32) ≤ 13 := Rg.f32 hR
  refine ⟨⟨_, rfl, (by decide)⟩, ?_⟩
  refine r_of (p := (I 235 32)) (f := 2) hF (j := (Int.toNat (306 + 66 * (I 235 32)))) (by omega) (by omega) (by omega) (fun w3 hw4 => ?_)
  have hw4 : w3 = (I 236 (Int.toNat (306 + 66 * (I 235 32)))) := hw4
  refine ⟨fun c => absurd c (show (¬ (((wr ((wr (4 * kk)) + aa)) : Int) = 0)) from by first | omega | (simp only [wr, wl] at *; omega)), fun _ => ?_⟩
  refine ⟨fun c => absurd c (show (¬ (((wr ((wr (4 * kk)) + aa)) : Int) = 1)) from by first | omega | (simp only [wr, wl] at *; omega)), fun _ => ?_⟩
  refine ⟨fun c => absurd c (show (¬ (((wr ((wr (4 * kk)) + aa)) : Int) = 2)) from by first | omega | (simp only [wr, wl] at *; omega)), fun _ => ?_⟩
  refine ⟨fun c => absurd c (show (¬ (((wr ((wr (4 * kk)) + aa)) : Int) = 3)) from by first | omega | (simp only [wr, wl] at *; omega)), fun _ => ?_⟩
  refine ⟨fun c => absurd c (show (¬ (((wr ((wr (4 * kk)) + aa)) : Int) = 4)) from by first | omega | (simp only [wr, wl] at *; omega)), fun _ => ?_⟩
  refine ⟨fun c => absurd c (show (¬ (((wr ((wr (4 * kk)) + aa)) : Int) = 5)) from by first | omega | (simp only [wr, wl] at *; omega)), fun _ => ?_⟩
  refine ⟨fun c => absurd c (show (¬ (((wr ((wr (4 * kk)) + aa)) : Int) = 6)) from by first | omega | (simp only [wr, wl] at *; omega)), fun _ => ?_⟩
  refine ⟨fun c => absurd c (show (¬ (((wr ((wr (4 * kk)) + aa)) : Int) = 7)) from by first | omega | (simp only [wr, wl] at *; omega)), fun _ => ?_⟩
  refine ⟨fun c => absurd c (show (¬ (((wr ((wr (4 * kk)) + aa)) : Int) = 8)) from by first | omega | (simp only [wr, wl] at *; omega)), fun _ => ?_⟩
  refine ⟨fun c => absurd c (show (¬ (((wr ((wr (4 * kk)) + aa)) : Int) = 9)) from by first | omega | (simp only [wr, wl] at *; omega)), fun _ => ?_⟩
  refine ⟨fun c => absurd c (show (¬ (((wr ((wr (4 * kk)) + aa)) : Int) = 10)) from by first | omega | (simp only [wr, wl] at *; omega)), fun _ => ?_⟩
  refine ⟨fun c => absurd c (show (¬ (((wr ((wr (4 * kk)) + aa)) : Int) = 11)) from by first | omega | (simp only [wr, wl] at *; omega)), fun _ => ?_⟩
  refine ⟨fun c => absurd c (show (¬ (((wr ((wr (4 * kk)) + aa)) : Int) = 12)) from by first | omega | (simp only [wr, wl] at *; omega)), fun _ => ?_⟩
  refine ⟨fun c => absurd c (show (¬ (((wr ((wr (4 * kk)) + aa)) : Int) = 13)) from by first | omega | (simp only [wr, wl] at *; omega)), fun _ => ?_⟩
  refine ⟨fun c => absurd c (show (¬ (((wr ((wr (4 * kk)) + aa)) : Int) = 14)) from by first | omega | (simp only [wr, wl] at *; omega)), fun _ => ?_⟩
  refine ⟨fun c => absurd c (show (¬ (((wr ((wr (4 * kk)) + aa)) : Int) = 15)) from by first | omega | (simp only [wr, wl] at *; omega)), fun _ => ?_⟩
  refine ⟨fun c => absurd c (show (¬ (((wr ((wr (4 * kk)) + aa)) : Int) = 16)) from by first | omega | (simp only [wr, wl] at *; omega)), fun _ => ?_⟩
  refine ⟨fun c => absurd c (show (¬ (((wr ((wr (4 * kk)) + aa)) : Int) = 17)) from by first | omega | (simp only [wr, wl] at *; omega)), fun _ => ?_⟩
  refine ⟨fun _ => ?_, fun c => absurd (show (((wr ((wr (4 * kk)) + aa)) : Int) = 18) from by first | omega | (simp only [wr, wl] at *; omega)) c⟩
  refine ⟨⟨_, rfl, (by decide)⟩, ?_⟩
  refine r_began  hF hR (fun I5 hR6 hA7 hW8 => ?_)
  refine ⟨⟨_, rfl, (by decide)⟩, ?_⟩
  refine Call_wp (lv := [some (vr 235), some (vi 0), some (vi 2), some (vi v0), none]) (by decide) ckX12_bodyFrom [] rfl rfl ?_
  refine Call_wp (lv := [some (vi 0), some (vi 2)]) (by decide) ckX12_hasOwn [] rfl rfl ?_
  refine ⟨fun _ => ?_, fun c => absurd (show ((0 : Int) = 0) from by decide) c⟩
  refine ⟨rfl, (by decide), ?_⟩
  refine ⟨fun _ => ?_, fun c => absurd c (show (¬ (1 : Int) = 0) from by decide)⟩
  refine ⟨_, rfl, (by decide), ?_⟩
  have u9 : (I5 235 33) = (I 235 33) := hW8 _ _ (by first | decide | omega)
  have a10 : -2147483648 ≤ (I 235 33) ∧ (I 235 33) < 2147483648 := hA.1 _ _
  have a11 : -2147483648 ≤ (I5 235 33) ∧ (I5 235 33) < 2147483648 := hA7.1 _ _
  refine ⟨fun (c12 : (((I5 235 33) : Int) = 0)) => ?_, fun (c12 : (¬ (((I5 235 33) : Int) = 0))) => ?_⟩
  ·
    refine ⟨⟨_, rfl, (by decide)⟩, ?_⟩
    refine r_body_0_2 (kk := 0) (aa := 2) (v0 := v0) hF hR6 (by omega) (by omega) (fun vr13 I14 hR15 hA16 hr18 hW17 => ?_)
    have hr18 : -2147483648 ≤ vr13 ∧ vr13 < 2147483648 := hr18
    refine ⟨rfl, ?_⟩
    exact ⟨rfl, fun hv hA' => hQ _ _ hR15 hA' (hv _ rfl) (fun ka ja hk => ((hW17 ka ja (by omega))).trans ((hW8 ka ja (by omega))))⟩
  ·
    refine ⟨rfl, ?_⟩
    exact ⟨rfl, fun hv hA' => hQ _ _ hR6 hA' (hv _ rfl) (fun ka ja hk => (hW8 ka ja (by omega)))⟩
theorem r_voiced_2 (hF : FS F) (hR : Rg I) {aa v0 : Int} (ha : aa = 2) (hQ : ∀ (r : Int) (I' : pI), Rg I' → AR I' → iR r → (∀ k j, ¬ ((k = 235 ∧ (j = 31 ∨ j = 33)) ∨ k = 249) → I' k j = I k j) → Q (some (vi r)) F I') : CallN G (d + 17) kX12_voiced [vr 235, vi aa, vi v0] NP F I Q := by
  refine CallN_in (fun hok hA => CallN_out ?_)
  have iaa : -2147483648 ≤ aa ∧ aa < 2147483648 := hok (vi aa) (by simp)
  have iv0 : -2147483648 ≤ v0 ∧ v0 < 2147483648 := hok (vi v0) (by simp)
  refine Call_wp (lv := [some (vr 235), some (vi aa), some (vi v0)]) (by decide) ckX12_voiced [] rfl rfl ?_
  refine ⟨_, rfl, (by decide), ?_⟩
  have r1 : 0 ≤ (I 235 32) ∧ (I 235 32) ≤ 13 := Rg.f32 hR
  refine ⟨⟨_, rfl, (by decide)⟩, ?_⟩
  refine r_of (p := (I 235 32)) (f := 0) hF (j := (Int.toNat (304 + 66 * (I 235 32)))) (by omega) (by omega) (by omega) (fun w3 hw4 => ?_)
  have r5 : 0 ≤ (I 236 (Int.toNat (304 + 66 * (I 235 32)))) ∧ (I 236 (Int.toNat (304 + 66 * (I 235 32)))) ≤ 5 := Pn_p0 (p := (Int.toNat (I 235 32))) (by omega) (by omega) (hR.n (Int.toNat (304 + 66 * (I 235 32))) (by omega))
  have hw4 : w3 = (I 236 (Int.toNat (304 + 66 * (I 235 32)))) := hw4
  refine ⟨⟨_, rfl, (by decide)⟩, ?_⟩
  refine Call_wp (lv := [some (vr 235), some (vi w3), some (vi aa), some (vi v0), none]) (by decide) ckX12_bodyFrom [] rfl rfl ?_
  refine Call_wp (lv := [some (vi w3), some (vi aa)]) (by decide) ckX12_hasOwn [] rfl rfl ?_
  refine ⟨fun (c6 : ((w3 : Int) = 0)) => ?_, fun (c6 : (¬ ((w3 : Int) = 0))) => ?_⟩
  ·
    refine ⟨rfl, (by decide), ?_⟩
    refine ⟨fun _ => ?_, fun c => absurd c (show (¬ (1 : Int) = 0) from by decide)⟩
    refine ⟨_, rfl, (by decide), ?_⟩
    have a7 : -2147483648 ≤ (I 235 33) ∧ (I 235 33) < 2147483648 := hA.1 _ _
    refine ⟨fun (c8 : (((I 235 33) : Int) = 0)) => ?_, fun (c8 : (¬ (((I 235 33) : Int) = 0))) => ?_⟩
    ·
      refine ⟨⟨_, rfl, (by decide)⟩, ?_⟩
      refine r_body_0_2 (kk := w3) (aa := aa) (v0 := v0) hF hR (by omega) (by omega) (fun vr10 I11 hR12 hA13 hr15 hW14 => ?_)
      have hr15 : -2147483648 ≤ vr10 ∧ vr10 < 2147483648 := hr15
      refine ⟨rfl, ?_⟩
      exact ⟨rfl, fun hv hA' => hQ _ _ hR12 hA' (hv _ rfl) (fun ka ja hk => (hW14 ka ja (by omega)))⟩
    ·
      refine ⟨rfl, ?_⟩
      exact ⟨rfl, fun hv hA' => hQ _ _ hR hA' (hv _ rfl) (fun _ _ _ => rfl)⟩
  ·
    refine ⟨fun (c16 : ((w3 : Int) = 1)) => ?_, fun (c16 : (¬ ((w3 : Int) = 1))) => ?_⟩
    ·
      refine ⟨fun c => absurd c (show (¬ ((aa : Int) = 1)) from by first | omega | (simp only [wr, wl] at *; omega)), fun _ => ?_⟩
      refine ⟨fun c => absurd (show ((aa : Int) = 2) from by first | omega | (simp only [wr, wl] at *; omega)) c, fun _ => ?_⟩
      refine ⟨rfl, (by decide), ?_⟩
      refine ⟨fun _ => ?_, fun c => absurd c (show (¬ (1 : Int) = 0) from by decide)⟩
      refine ⟨_, rfl, (by decide), ?_⟩
      have a17 : -2147483648 ≤ (I 235 33) ∧ (I 235 33) < 2147483648 := hA.1 _ _
      refine ⟨fun (c18 : (((I 235 33) : Int) = 0)) => ?_, fun (c18 : (¬ (((I 235 33) : Int) = 0))) => ?_⟩
      ·
        refine ⟨⟨_, rfl, (by decide)⟩, ?_⟩
        refine r_body_1_2 (kk := w3) (aa := aa) (v0 := v0) hF hR (by omega) (by omega) (fun vr20 I21 hR22 hA23 hr25 hW24 => ?_)
        have hr25 : -2147483648 ≤ vr20 ∧ vr20 < 2147483648 := hr25
        refine ⟨rfl, ?_⟩
        exact ⟨rfl, fun hv hA' => hQ _ _ hR22 hA' (hv _ rfl) (fun ka ja hk => (hW24 ka ja (by omega)))⟩
      ·
        refine ⟨rfl, ?_⟩
        exact ⟨rfl, fun hv hA' => hQ _ _ hR hA' (hv _ rfl) (fun _ _ _ => rfl)⟩
    ·
      refine ⟨fun (c26 : ((w3 : Int) = 2)) => ?_, fun (c26 : (¬ ((w3 : Int) = 2))) => ?_⟩
      ·
        refine ⟨fun c => absurd c (show (¬ ((aa : Int) = 0)) from by first | omega | (simp only [wr, wl] at *; omega)), fun _ => ?_⟩
        refine ⟨fun _ => ?_, fun c => absurd c (show (¬ (aa : Int) = 3) from by first | omega | (simp only [wr, wl] at *; omega))⟩
        refine ⟨rfl, (by decide), ?_⟩
        refine ⟨fun c => absurd (show ((0 : Int) = 0) from by decide) c, fun _ => ?_⟩
        refine Call_wp (lv := [some (vi w3)]) (by decide) ckX12_above [] rfl rfl ?_
        refine ⟨fun _ => ?_, fun c => absurd c (show (¬ (w3 : Int) = 0) from by first | omega | (simp only [wr, wl] at *; omega))⟩
        refine ⟨fun _ => ?_, fun c => absurd c (show (¬ (w3 : Int) = 3) from by first | omega | (simp only [wr, wl] at *; omega))⟩
        refine ⟨fun _ => ?_, fun c => absurd c (show (¬ (w3 : Int) = 5) from by first | omega | (simp only [wr, wl] at *; omega))⟩
        refine ⟨rfl, ?_⟩
        refine Call_wp (lv := [some (vi 0), some (vi aa)]) (by decide) ckX12_hasOwn [] rfl rfl ?_
        refine ⟨fun _ => ?_, fun c => absurd (show ((0 : Int) = 0) from by decide) c⟩
        refine ⟨rfl, (by decide), ?_⟩
        refine ⟨fun _ => ?_, fun c => absurd c (show (¬ (1 : Int) = 0) from by decide)⟩
        refine ⟨_, rfl, (by decide), ?_⟩
        have a28 : -2147483648 ≤ (I 235 33) ∧ (I 235 33) < 2147483648 := hA.1 _ _
        refine ⟨fun (c29 : (((I 235 33) : Int) = 0)) => ?_, fun (c29 : (¬ (((I 235 33) : Int) = 0))) => ?_⟩
        ·
          refine ⟨⟨_, rfl, (by decide)⟩, ?_⟩
          refine r_body_0_2 (kk := 0) (aa := aa) (v0 := v0) hF hR (by omega) (by omega) (fun vr30 I31 hR32 hA33 hr35 hW34 => ?_)
          have hr35 : -2147483648 ≤ vr30 ∧ vr30 < 2147483648 := hr35
          refine ⟨rfl, ?_⟩
          exact ⟨rfl, fun hv hA' => hQ _ _ hR32 hA' (hv _ rfl) (fun ka ja hk => (hW34 ka ja (by omega)))⟩
        ·
          refine ⟨rfl, ?_⟩
          exact ⟨rfl, fun hv hA' => hQ _ _ hR hA' (hv _ rfl) (fun _ _ _ => rfl)⟩
      ·
        refine ⟨fun (c36 : ((w3 : Int) = 3)) => ?_, fun (c36 : (¬ ((w3 : Int) = 3))) => ?_⟩
        ·
          refine ⟨fun c => absurd c (show (¬ ((aa : Int) = 0)) from by first | omega | (simp only [wr, wl] at *; omega)), fun _ => ?_⟩
          refine ⟨fun c => absurd (show ((aa : Int) = 2) from by first | omega | (simp only [wr, wl] at *; omega)) c, fun _ => ?_⟩
          refine ⟨rfl, (by decide), ?_⟩
          refine ⟨fun _ => ?_, fun c => absurd c (show (¬ (1 : Int) = 0) from by decide)⟩
          refine ⟨_, rfl, (by decide), ?_⟩
          have a37 : -2147483648 ≤ (I 235 33) ∧ (I 235 33) < 2147483648 := hA.1 _ _
          refine ⟨fun (c38 : (((I 235 33) : Int) = 0)) => ?_, fun (c38 : (¬ (((I 235 33) : Int) = 0))) => ?_⟩
          ·
            refine ⟨⟨_, rfl, (by decide)⟩, ?_⟩
            refine r_body_3_2 (kk := w3) (aa := aa) (v0 := v0) hF hR (by omega) (by omega) (fun vr40 I41 hR42 hA43 hr45 hW44 => ?_)
            have hr45 : -2147483648 ≤ vr40 ∧ vr40 < 2147483648 := hr45
            refine ⟨rfl, ?_⟩
            exact ⟨rfl, fun hv hA' => hQ _ _ hR42 hA' (hv _ rfl) (fun ka ja hk => (hW44 ka ja (by omega)))⟩
          ·
            refine ⟨rfl, ?_⟩
            exact ⟨rfl, fun hv hA' => hQ _ _ hR hA' (hv _ rfl) (fun _ _ _ => rfl)⟩
        ·
          refine ⟨fun (c46 : ((w3 : Int) = 4)) => ?_, fun (c46 : (¬ ((w3 : Int) = 4))) => ?_⟩
          ·
            refine ⟨fun c => absurd (show ((aa : Int) = 2) from by first | omega | (simp only [wr, wl] at *; omega)) c, fun _ => ?_⟩
            refine ⟨rfl, (by decide), ?_⟩
            refine ⟨fun _ => ?_, fun c => absurd c (show (¬ (1 : Int) = 0) from by decide)⟩
            refine ⟨_, rfl, (by decide), ?_⟩
            have a47 : -2147483648 ≤ (I 235 33) ∧ (I 235 33) < 2147483648 := hA.1 _ _
            refine ⟨fun (c48 : (((I 235 33) : Int) = 0)) => ?_, fun (c48 : (¬ (((I 235 33) : Int) = 0))) => ?_⟩
            ·
              refine ⟨⟨_, rfl, (by decide)⟩, ?_⟩
              refine r_body_4_2 (kk := w3) (aa := aa) (v0 := v0) hF hR (by omega) (by omega) (fun vr50 I51 hR52 hA53 hr55 hW54 => ?_)
              have hr55 : -2147483648 ≤ vr50 ∧ vr50 < 2147483648 := hr55
              refine ⟨rfl, ?_⟩
              exact ⟨rfl, fun hv hA' => hQ _ _ hR52 hA' (hv _ rfl) (fun ka ja hk => (hW54 ka ja (by omega)))⟩
            ·
              refine ⟨rfl, ?_⟩
              exact ⟨rfl, fun hv hA' => hQ _ _ hR hA' (hv _ rfl) (fun _ _ _ => rfl)⟩
          ·
            refine ⟨fun c => absurd c (show (¬ ((aa : Int) = 1)) from by first | omega | (simp only [wr, wl] at *; omega)), fun _ => ?_⟩
            refine ⟨fun _ => ?_, fun c => absurd c (show (¬ (aa : Int) = 3) from by first | omega | (simp only [wr, wl] at *; omega))⟩
            refine ⟨rfl, (by decide), ?_⟩
            refine ⟨fun c => absurd (show ((0 : Int) = 0) from by decide) c, fun _ => ?_⟩
            refine Call_wp (lv := [some (vi w3)]) (by decide) ckX12_above [] rfl rfl ?_
            refine ⟨fun _ => ?_, fun c => absurd c (show (¬ (w3 : Int) = 0) from by first | omega | (simp only [wr, wl] at *; omega))⟩
            refine ⟨fun _ => ?_, fun c => absurd c (show (¬ (w3 : Int) = 3) from by first | omega | (simp only [wr, wl] at *; omega))⟩
            refine ⟨fun c => absurd (show ((w3 : Int) = 5) from by first | omega | (simp only [wr, wl] at *; omega)) c, fun _ => ?_⟩
            refine ⟨rfl, ?_⟩
            refine Call_wp (lv := [some (vi 2), some (vi aa)]) (by decide) ckX12_hasOwn [] rfl rfl ?_
            refine ⟨fun c => absurd c (show (¬ ((2 : Int) = 0)) from by decide), fun _ => ?_⟩
            refine ⟨fun c => absurd c (show (¬ ((2 : Int) = 1)) from by decide), fun _ => ?_⟩
            refine ⟨fun _ => ?_, fun c => absurd (show ((2 : Int) = 2) from by decide) c⟩
            refine ⟨fun c => absurd c (show (¬ ((aa : Int) = 0)) from by first | omega | (simp only [wr, wl] at *; omega)), fun _ => ?_⟩
            refine ⟨fun _ => ?_, fun c => absurd c (show (¬ (aa : Int) = 3) from by first | omega | (simp only [wr, wl] at *; omega))⟩
            refine ⟨rfl, (by decide), ?_⟩
            refine ⟨fun c => absurd (show ((0 : Int) = 0) from by decide) c, fun _ => ?_⟩
            refine Call_wp (lv := [some (vi 2)]) (by decide) ckX12_above [] rfl rfl ?_
            refine ⟨fun _ => ?_, fun c => absurd c (show (¬ (2 : Int) = 0) from by decide)⟩
            refine ⟨fun _ => ?_, fun c => absurd c (show (¬ (2 : Int) = 3) from by decide)⟩
            refine ⟨fun _ => ?_, fun c => absurd c (show (¬ (2 : Int) = 5) from by decide)⟩
            refine ⟨rfl, ?_⟩
            refine Call_wp (lv := [some (vi 0), some (vi aa)]) (by decide) ckX12_hasOwn [] rfl rfl ?_
            refine ⟨fun _ => ?_, fun c => absurd (show ((0 : Int) = 0) from by decide) c⟩
            refine ⟨rfl, (by decide), ?_⟩
            refine ⟨fun _ => ?_, fun c => absurd c (show (¬ (1 : Int) = 0) from by decide)⟩
            refine ⟨_, rfl, (by decide), ?_⟩
            have a57 : -2147483648 ≤ (I 235 33) ∧ (I 235 33) < 2147483648 := hA.1 _ _
            refine ⟨fun (c58 : (((I 235 33) : Int) = 0)) => ?_, fun (c58 : (¬ (((I 235 33) : Int) = 0))) => ?_⟩
            ·
              refine ⟨⟨_, rfl, (by decide)⟩, ?_⟩
              refine r_body_0_2 (kk := 0) (aa := aa) (v0 := v0) hF hR (by omega) (by omega) (fun vr59 I60 hR61 hA62 hr64 hW63 => ?_)
              have hr64 : -2147483648 ≤ vr59 ∧ vr59 < 2147483648 := hr64
              refine ⟨rfl, ?_⟩
              exact ⟨rfl, fun hv hA' => hQ _ _ hR61 hA' (hv _ rfl) (fun ka ja hk => (hW63 ka ja (by omega)))⟩
            ·
              refine ⟨rfl, ?_⟩
              exact ⟨rfl, fun hv hA' => hQ _ _ hR hA' (hv _ rfl) (fun _ _ _ => rfl)⟩
theorem r_body_0_3 (hF : FS F) (hR : Rg I) {kk aa v0 : Int} (hk : kk = 0) (ha : aa = 3) (hQ : ∀ (r : Int) (I' : pI), Rg I' → AR I' → iR r → (∀ k j, ¬ ((k = 235 ∧ (j = 31 ∨ j = 33)) ∨ k = 249) → I' k j = I k j) → Q (some (vi r)) F I') : CallN G (d + 1) kX12_body [vr 235, vi kk, vi aa, vi v0] NP F I Q := by
  refine CallN_in (fun hok hA => CallN_out ?_)
  have ikk : -2147483648 ≤ kk ∧ kk < 2147483648 := hok (vi kk) (by simp)
  have iaa : -2147483648 ≤ aa ∧ aa < 2147483648 := hok (vi aa) (by simp)
  have iv0 : -2147483648 ≤ v0 ∧ v0 < 2147483648 := hok (vi v0) (by simp)
  refine Call_wp (lv := [some (vr 235), some (vi kk), some (vi aa), some (vi v0), none, none]) (by decide) ckX12_body [] rfl rfl ?_
  refine ⟨_, rfl, (by decide), ?_⟩
  have r1 : 0 ≤ (I 235 32) ∧ (I 235 32) ≤ 13 := Rg.f32 hR
  refine ⟨⟨_, rfl, (by decide)⟩, ?_⟩
  refine r_of (p := (I 235 32)) (f := 2) hF (j := (Int.toNat (306 + 66 * (I 235 32)))) (by omega) (by omega) (by omega) (fun w3 hw4 => ?_)
  have hw4 : w3 = (I 236 (Int.toNat (306 + 66 * (I 235 32)))) := hw4
  refine ⟨fun c => absurd c (show (¬ (((wr ((wr (4 * kk)) + aa)) : Int) = 0)) from by first | omega | (simp only [wr, wl] at *; omega)), fun _ => ?_⟩
  refine ⟨fun c => absurd c (show (¬ (((wr ((wr (4 * kk)) + aa)) : Int) = 1)) from by first | omega | (simp only [wr, wl] at *; omega)), fun _ => ?_⟩
  refine ⟨fun c => absurd c (show (¬ (((wr ((wr (4 * kk)) + aa)) : Int) = 2)) from by first | omega | (simp only [wr, wl] at *; omega)), fun _ => ?_⟩
  refine ⟨fun _ => ?_, fun c => absurd (show (((wr ((wr (4 * kk)) + aa)) : Int) = 3) from by first | omega | (simp only [wr, wl] at *; omega)) c⟩
  refine ⟨⟨_, rfl, (by decide)⟩, ?_⟩
  refine r_began  hF hR (fun I5 hR6 hA7 hW8 => ?_)
  refine ⟨_, rfl, (by decide), ?_⟩
  have u9 : (I5 235 32) = (I 235 32) := hW8 _ _ (by first | decide | omega)
  have a10 : -2147483648 ≤ (I5 235 32) ∧ (I5 235 32) < 2147483648 := hA7.1 _ _
  have r11 : 0 ≤ (I5 235 32) ∧ (I5 235 32) ≤ 13 := Rg.f32 hR6
  have a12 : -2147483648 ≤ (I 236 (Int.toNat (306 + 66 * (I 235 32)))) ∧ (I 236 (Int.toNat (306 + 66 * (I 235 32)))) < 2147483648 := hA.1 _ _
  refine ⟨fun (c13 : (¬ (w3 : Int) = (I5 235 32))) => ?_, fun (c13 : ((w3 : Int) = (I5 235 32))) => ?_⟩
  ·
    refine ⟨_, rfl, (by decide), (by decide), ?_⟩
    refine ⟨_, rfl, (by decide), ?_⟩
    refine ⟨fun _ => ?_, fun c => absurd (show ((0 : Int) = 0) from by decide) c⟩
    refine ⟨_, rfl, (by decide), ?_⟩
    have n14 : -2147483648 ≤ (wr (w3 - (I5 235 32))) ∧ (wr (w3 - (I5 235 32))) < 2147483648 := wr_R _
    refine ⟨(show ¬ ((wr (w3 - (I5 235 32))) : Int) = 0 from by first | omega | (simp only [wr, wl] at *; omega)), ?_⟩
    exact ⟨rfl, fun hv hA' => hQ _ _ (Rg.u hR6 (Pr_f rfl)) hA' (hv _ rfl) (fun ka ja hk => ((uI_o (show ¬ (ka = 235 ∧ ja = 33) from by first | (intro e; obtain ⟨rfl, rfl⟩ := e; exact hk (by decide)) | omega))).trans ((hW8 ka ja (by omega))))⟩
  ·
    refine ⟨_, rfl, (by decide), (by decide), ?_⟩
    refine ⟨_, rfl, (by decide), ?_⟩
    refine ⟨fun c => absurd c (show (¬ ((1 : Int) = 0)) from by decide), fun _ => ?_⟩
    exact ⟨rfl, fun hv hA' => hQ _ _ (Rg.u hR6 (Pr_f rfl)) hA' (hv _ rfl) (fun ka ja hk => ((uI_o (show ¬ (ka = 235 ∧ ja = 33) from by first | (intro e; obtain ⟨rfl, rfl⟩ := e; exact hk (by decide)) | omega))).trans ((hW8 ka ja (by omega))))⟩
theorem r_body_2_3 (hF : FS F) (hR : Rg I) {kk aa v0 : Int} (hk : kk = 2) (ha : aa = 3) (hQ : ∀ (r : Int) (I' : pI), Rg I' → AR I' → iR r → (∀ k j, ¬ ((k = 235 ∧ (j = 31 ∨ j = 33)) ∨ k = 249) → I' k j = I k j) → Q (some (vi r)) F I') : CallN G (d + 18) kX12_body [vr 235, vi kk, vi aa, vi v0] NP F I Q := by
  refine CallN_in (fun hok hA => CallN_out ?_)
  have ikk : -2147483648 ≤ kk ∧ kk < 2147483648 := hok (vi kk) (by simp)
  have iaa : -2147483648 ≤ aa ∧ aa < 2147483648 := hok (vi aa) (by simp)
  have iv0 : -2147483648 ≤ v0 ∧ v0 < 2147483648 := hok (vi v0) (by simp)
  refine Call_wp (lv := [some (vr 235), some (vi kk), some (vi aa), some (vi v0), none, none]) (by decide) ckX12_body [] rfl rfl ?_
  refine ⟨_, rfl, (by decide), ?_⟩
  have r1 : 0 ≤ (I 235 32) ∧ (I 235 32) ≤ 13 := Rg.f32 hR
  refine ⟨⟨_, rfl, (by decide)⟩, ?_⟩
  refine r_of (p := (I 235 32)) (f := 2) hF (j := (Int.toNat (306 + 66 * (I 235 32)))) (by omega) (by omega) (by omega) (fun w3 hw4 => ?_)
  have hw4 : w3 = (I 236 (Int.toNat (306 + 66 * (I 235 32)))) := hw4
  refine ⟨fun c => absurd c (show (¬ (((wr ((wr (4 * kk)) + aa)) : Int) = 0)) from by first | omega | (simp only [wr, wl] at *; omega)), fun _ => ?_⟩
  refine ⟨fun c => absurd c (show (¬ (((wr ((wr (4 * kk)) + aa)) : Int) = 1)) from by first | omega | (simp only [wr, wl] at *; omega)), fun _ => ?_⟩
  refine ⟨fun c => absurd c (show (¬ (((wr ((wr (4 * kk)) + aa)) : Int) = 2)) from by first | omega | (simp only [wr, wl] at *; omega)), fun _ => ?_⟩
  refine ⟨fun c => absurd c (show (¬ (((wr ((wr (4 * kk)) + aa)) : Int) = 3)) from by first | omega | (simp only [wr, wl] at *; omega)), fun _ => ?_⟩
  refine ⟨fun c => absurd c (show (¬ (((wr ((wr (4 * kk)) + aa)) : Int) = 4)) from by first | omega | (simp only [wr, wl] at *; omega)), fun _ => ?_⟩
  refine ⟨fun c => absurd c (show (¬ (((wr ((wr (4 * kk)) + aa)) : Int) = 5)) from by first | omega | (simp only [wr, wl] at *; omega)), fun _ => ?_⟩
  refine ⟨fun c => absurd c (show (¬ (((wr ((wr (4 * kk)) + aa)) : Int) = 6)) from by first | omega | (simp only [wr, wl] at *; omega)), fun _ => ?_⟩
  refine ⟨fun c => absurd c (show (¬ (((wr ((wr (4 * kk)) + aa)) : Int) = 7)) from by first | omega | (simp only [wr, wl] at *; omega)), fun _ => ?_⟩
  refine ⟨fun c => absurd c (show (¬ (((wr ((wr (4 * kk)) + aa)) : Int) = 8)) from by first | omega | (simp only [wr, wl] at *; omega)), fun _ => ?_⟩
  refine ⟨fun c => absurd c (show (¬ (((wr ((wr (4 * kk)) + aa)) : Int) = 9)) from by first | omega | (simp only [wr, wl] at *; omega)), fun _ => ?_⟩
  refine ⟨fun c => absurd c (show (¬ (((wr ((wr (4 * kk)) + aa)) : Int) = 10)) from by first | omega | (simp only [wr, wl] at *; omega)), fun _ => ?_⟩
  refine ⟨fun _ => ?_, fun c => absurd (show (((wr ((wr (4 * kk)) + aa)) : Int) = 11) from by first | omega | (simp only [wr, wl] at *; omega)) c⟩
  refine ⟨⟨_, rfl, (by decide)⟩, ?_⟩
  refine r_began  hF hR (fun I5 hR6 hA7 hW8 => ?_)
  refine ⟨⟨_, rfl, (by decide)⟩, ?_⟩
  refine Call_wp (lv := [some (vr 235), some (vi 0), some (vi 3), some (vi v0), none]) (by decide) ckX12_bodyFrom [] rfl rfl ?_
  refine Call_wp (lv := [some (vi 0), some (vi 3)]) (by decide) ckX12_hasOwn [] rfl rfl ?_
  refine ⟨fun _ => ?_, fun c => absurd (show ((0 : Int) = 0) from by decide) c⟩
  refine ⟨rfl, (by decide), ?_⟩
  refine ⟨fun _ => ?_, fun c => absurd c (show (¬ (1 : Int) = 0) from by decide)⟩
  refine ⟨_, rfl, (by decide), ?_⟩
  have u9 : (I5 235 33) = (I 235 33) := hW8 _ _ (by first | decide | omega)
  have a10 : -2147483648 ≤ (I 235 33) ∧ (I 235 33) < 2147483648 := hA.1 _ _
  have a11 : -2147483648 ≤ (I5 235 33) ∧ (I5 235 33) < 2147483648 := hA7.1 _ _
  refine ⟨fun (c12 : (((I5 235 33) : Int) = 0)) => ?_, fun (c12 : (¬ (((I5 235 33) : Int) = 0))) => ?_⟩
  ·
    refine ⟨⟨_, rfl, (by decide)⟩, ?_⟩
    refine r_body_0_3 (kk := 0) (aa := 3) (v0 := v0) hF hR6 (by omega) (by omega) (fun vr13 I14 hR15 hA16 hr18 hW17 => ?_)
    have hr18 : -2147483648 ≤ vr13 ∧ vr13 < 2147483648 := hr18
    refine ⟨rfl, ?_⟩
    refine ⟨⟨_, rfl, (by decide)⟩, ?_⟩
    refine r_voiced_2 (aa := 2) (v0 := 1) hF hR15 (by omega) (fun vr19 I20 hR21 hA22 hr24 hW23 => ?_)
    have hr24 : -2147483648 ≤ vr19 ∧ vr19 < 2147483648 := hr24
    exact ⟨rfl, fun hv hA' => hQ _ _ hR21 hA' (hv _ rfl) (fun ka ja hk => ((hW23 ka ja (by omega))).trans (((hW17 ka ja (by omega))).trans ((hW8 ka ja (by omega)))))⟩
  ·
    refine ⟨rfl, ?_⟩
    refine ⟨⟨_, rfl, (by decide)⟩, ?_⟩
    refine r_voiced_2 (aa := 2) (v0 := 1) hF hR6 (by omega) (fun vr25 I26 hR27 hA28 hr30 hW29 => ?_)
    have hr30 : -2147483648 ≤ vr25 ∧ vr25 < 2147483648 := hr30
    exact ⟨rfl, fun hv hA' => hQ _ _ hR27 hA' (hv _ rfl) (fun ka ja hk => ((hW29 ka ja (by omega))).trans ((hW8 ka ja (by omega))))⟩
theorem r_body_5_3 (hF : FS F) (hR : Rg I) {kk aa v0 : Int} (hk : kk = 5) (ha : aa = 3) (hQ : ∀ (r : Int) (I' : pI), Rg I' → AR I' → iR r → (∀ k j, ¬ ((k = 235 ∧ (j = 31 ∨ j = 33)) ∨ k = 249) → I' k j = I k j) → Q (some (vi r)) F I') : CallN G (d + 20) kX12_body [vr 235, vi kk, vi aa, vi v0] NP F I Q := by
  refine CallN_in (fun hok hA => CallN_out ?_)
  have ikk : -2147483648 ≤ kk ∧ kk < 2147483648 := hok (vi kk) (by simp)
  have iaa : -2147483648 ≤ aa ∧ aa < 2147483648 := hok (vi aa) (by simp)
  have iv0 : -2147483648 ≤ v0 ∧ v0 < 2147483648 := hok (vi v0) (by simp)
  refine Call_wp (lv := [some (vr 235), some (vi kk), some (vi aa), some (vi v0), none, none]) (by decide) ckX12_body [] rfl rfl ?_
  refine ⟨_, rfl, (by decide), ?_⟩
  have r1 : 0 ≤ (I 235 32) ∧ (I 235 32) ≤ 13 := Rg.f32 hR
  refine ⟨⟨_, rfl, (by decide)⟩, ?_⟩
  refine r_of (p := (I 235 32)) (f := 2) hF (j := (Int.toNat (306 + 66 * (I 235 32)))) (by omega) (by omega) (by omega) (fun w3 hw4 => ?_)
  have hw4 : w3 = (I 236 (Int.toNat (306 + 66 * (I 235 32)))) := hw4
  refine ⟨fun c => absurd c (show (¬ (((wr ((wr (4 * kk)) + aa)) : Int) = 0)) from by first | omega | (simp only [wr, wl] at *; omega)), fun _ => ?_⟩
  refine ⟨fun c => absurd c (show (¬ (((wr ((wr (4 * kk)) + aa)) : Int) = 1)) from by first | omega | (simp only [wr, wl] at *; omega)), fun _ => ?_⟩
  refine ⟨fun c => absurd c (show (¬ (((wr ((wr (4 * kk)) + aa)) : Int) = 2)) from by first | omega | (simp only [wr, wl] at *; omega)), fun _ => ?_⟩
  refine ⟨fun c => absurd c (show (¬ (((wr ((wr (4 * kk)) + aa)) : Int) = 3)) from by first | omega | (simp only [wr, wl] at *; omega)), fun _ => ?_⟩
  refine ⟨fun c => absurd c (show (¬ (((wr ((wr (4 * kk)) + aa)) : Int) = 4)) from by first | omega | (simp only [wr, wl] at *; omega)), fun _ => ?_⟩
  refine ⟨fun c => absurd c (show (¬ (((wr ((wr (4 * kk)) + aa)) : Int) = 5)) from by first | omega | (simp only [wr, wl] at *; omega)), fun _ => ?_⟩
  refine ⟨fun c => absurd c (show (¬ (((wr ((wr (4 * kk)) + aa)) : Int) = 6)) from by first | omega | (simp only [wr, wl] at *; omega)), fun _ => ?_⟩
  refine ⟨fun c => absurd c (show (¬ (((wr ((wr (4 * kk)) + aa)) : Int) = 7)) from by first | omega | (simp only [wr, wl] at *; omega)), fun _ => ?_⟩
  refine ⟨fun c => absurd c (show (¬ (((wr ((wr (4 * kk)) + aa)) : Int) = 8)) from by first | omega | (simp only [wr, wl] at *; omega)), fun _ => ?_⟩
  refine ⟨fun c => absurd c (show (¬ (((wr ((wr (4 * kk)) + aa)) : Int) = 9)) from by first | omega | (simp only [wr, wl] at *; omega)), fun _ => ?_⟩
  refine ⟨fun c => absurd c (show (¬ (((wr ((wr (4 * kk)) + aa)) : Int) = 10)) from by first | omega | (simp only [wr, wl] at *; omega)), fun _ => ?_⟩
  refine ⟨fun c => absurd c (show (¬ (((wr ((wr (4 * kk)) + aa)) : Int) = 11)) from by first | omega | (simp only [wr, wl] at *; omega)), fun _ => ?_⟩
  refine ⟨fun c => absurd c (show (¬ (((wr ((wr (4 * kk)) + aa)) : Int) = 12)) from by first | omega | (simp only [wr, wl] at *; omega)), fun _ => ?_⟩
  refine ⟨fun c => absurd c (show (¬ (((wr ((wr (4 * kk)) + aa)) : Int) = 13)) from by first | omega | (simp only [wr, wl] at *; omega)), fun _ => ?_⟩
  refine ⟨fun c => absurd c (show (¬ (((wr ((wr (4 * kk)) + aa)) : Int) = 14)) from by first | omega | (simp only [wr, wl] at *; omega)), fun _ => ?_⟩
  refine ⟨fun c => absurd c (show (¬ (((wr ((wr (4 * kk)) + aa)) : Int) = 15)) from by first | omega | (simp only [wr, wl] at *; omega)), fun _ => ?_⟩
  refine ⟨fun c => absurd c (show (¬ (((wr ((wr (4 * kk)) + aa)) : Int) = 16)) from by first | omega | (simp only [wr, wl] at *; omega)), fun _ => ?_⟩
  refine ⟨fun c => absurd c (show (¬ (((wr ((wr (4 * kk)) + aa)) : Int) = 17)) from by first | omega | (simp only [wr, wl] at *; omega)), fun _ => ?_⟩
  refine ⟨fun c => absurd c (show (¬ (((wr ((wr (4 * kk)) + aa)) : Int) = 18)) from by first | omega | (simp only [wr, wl] at *; omega)), fun _ => ?_⟩
  refine ⟨fun c => absurd c (show (¬ (((wr ((wr (4 * kk)) + aa)) : Int) = 19)) from by first | omega | (simp only [wr, wl] at *; omega)), fun _ => ?_⟩
  refine ⟨fun c => absurd c (show (¬ (((wr ((wr (4 * kk)) + aa)) : Int) = 20)) from by first | omega | (simp only [wr, wl] at *; omega)), fun _ => ?_⟩
  refine ⟨fun c => absurd c (show (¬ (((wr ((wr (4 * kk)) + aa)) : Int) = 21)) from by first | omega | (simp only [wr, wl] at *; omega)), fun _ => ?_⟩
  refine ⟨⟨_, rfl, (by decide)⟩, ?_⟩
  refine r_began  hF hR (fun I5 hR6 hA7 hW8 => ?_)
  refine ⟨⟨_, rfl, (by decide)⟩, ?_⟩
  refine r_voiced_1 (aa := 1) (v0 := v0) hF hR6 (by omega) (fun vr9 I10 hR11 hA12 hr14 hW13 => ?_)
  have hr14 : -2147483648 ≤ vr9 ∧ vr9 < 2147483648 := hr14
  refine ⟨⟨_, rfl, (by decide)⟩, ?_⟩
  refine Call_wp (lv := [some (vr 235), some (vi 2), some (vi 3), some (vi v0), none]) (by decide) ckX12_bodyFrom [] rfl rfl ?_
  refine Call_wp (lv := [some (vi 2), some (vi 3)]) (by decide) ckX12_hasOwn [] rfl rfl ?_
  refine ⟨fun c => absurd c (show (¬ ((2 : Int) = 0)) from by decide), fun _ => ?_⟩
  refine ⟨fun c => absurd c (show (¬ ((2 : Int) = 1)) from by decide), fun _ => ?_⟩
  refine ⟨fun _ => ?_, fun c => absurd (show ((2 : Int) = 2) from by decide) c⟩
  refine ⟨fun c => absurd c (show (¬ ((3 : Int) = 0)) from by decide), fun _ => ?_⟩
  refine ⟨fun c => absurd (show ((3 : Int) = 3) from by decide) c, fun _ => ?_⟩
  refine ⟨rfl, (by decide), ?_⟩
  refine ⟨fun _ => ?_, fun c => absurd c (show (¬ (1 : Int) = 0) from by decide)⟩
  refine ⟨_, rfl, (by decide), ?_⟩
  have a15 : -2147483648 ≤ (I10 235 33) ∧ (I10 235 33) < 2147483648 := hA12.1 _ _
  refine ⟨fun (c16 : (((I10 235 33) : Int) = 0)) => ?_, fun (c16 : (¬ (((I10 235 33) : Int) = 0))) => ?_⟩
  ·
    refine ⟨⟨_, rfl, (by decide)⟩, ?_⟩
    refine r_body_2_3 (kk := 2) (aa := 3) (v0 := v0) hF hR11 (by omega) (by omega) (fun vr17 I18 hR19 hA20 hr22 hW21 => ?_)
    have hr22 : -2147483648 ≤ vr17 ∧ vr17 < 2147483648 := hr22
    refine ⟨rfl, ?_⟩
    exact ⟨rfl, fun hv hA' => hQ _ _ hR19 hA' (hv _ rfl) (fun ka ja hk => ((hW21 ka ja (by omega))).trans (((hW13 ka ja (by omega))).trans ((hW8 ka ja (by omega)))))⟩
  ·
    refine ⟨rfl, ?_⟩
    exact ⟨rfl, fun hv hA' => hQ _ _ hR11 hA' (hv _ rfl) (fun ka ja hk => ((hW13 ka ja (by omega))).trans ((hW8 ka ja (by omega))))⟩
theorem r_voiced_3 (hF : FS F) (hR : Rg I) {aa v0 : Int} (ha : aa = 3) (hQ : ∀ (r : Int) (I' : pI), Rg I' → AR I' → iR r → (∀ k j, ¬ ((k = 235 ∧ (j = 31 ∨ j = 33)) ∨ k = 249) → I' k j = I k j) → Q (some (vi r)) F I') : CallN G (d + 22) kX12_voiced [vr 235, vi aa, vi v0] NP F I Q := by
  refine CallN_in (fun hok hA => CallN_out ?_)
  have iaa : -2147483648 ≤ aa ∧ aa < 2147483648 := hok (vi aa) (by simp)
  have iv0 : -2147483648 ≤ v0 ∧ v0 < 2147483648 := hok (vi v0) (by simp)
  refine Call_wp (lv := [some (vr 235), some (vi aa), some (vi v0)]) (by decide) ckX12_voiced [] rfl rfl ?_
  refine ⟨_, rfl, (by decide), ?_⟩
  have r1 : 0 ≤ (I 235 32) ∧ (I 235 32) ≤ 13 := Rg.f32 hR
  refine ⟨⟨_, rfl, (by decide)⟩, ?_⟩
  refine r_of (p := (I 235 32)) (f := 0) hF (j := (Int.toNat (304 + 66 * (I 235 32)))) (by omega) (by omega) (by omega) (fun w3 hw4 => ?_)
  have r5 : 0 ≤ (I 236 (Int.toNat (304 + 66 * (I 235 32)))) ∧ (I 236 (Int.toNat (304 + 66 * (I 235 32)))) ≤ 5 := Pn_p0 (p := (Int.toNat (I 235 32))) (by omega) (by omega) (hR.n (Int.toNat (304 + 66 * (I 235 32))) (by omega))
  have hw4 : w3 = (I 236 (Int.toNat (304 + 66 * (I 235 32)))) := hw4
  refine ⟨⟨_, rfl, (by decide)⟩, ?_⟩
  refine Call_wp (lv := [some (vr 235), some (vi w3), some (vi aa), some (vi v0), none]) (by decide) ckX12_bodyFrom [] rfl rfl ?_
  refine Call_wp (lv := [some (vi w3), some (vi aa)]) (by decide) ckX12_hasOwn [] rfl rfl ?_
  refine ⟨fun (c6 : ((w3 : Int) = 0)) => ?_, fun (c6 : (¬ ((w3 : Int) = 0))) => ?_⟩
  ·
    refine ⟨rfl, (by decide), ?_⟩
    refine ⟨fun _ => ?_, fun c => absurd c (show (¬ (1 : Int) = 0) from by decide)⟩
    refine ⟨_, rfl, (by decide), ?_⟩
    have a7 : -2147483648 ≤ (I 235 33) ∧ (I 235 33) < 2147483648 := hA.1 _ _
    refine ⟨fun (c8 : (((I 235 33) : Int) = 0)) => ?_, fun (c8 : (¬ (((I 235 33) : Int) = 0))) => ?_⟩
    ·
      refine ⟨⟨_, rfl, (by decide)⟩, ?_⟩
      refine r_body_0_3 (kk := w3) (aa := aa) (v0 := v0) hF hR (by omega) (by omega) (fun vr10 I11 hR12 hA13 hr15 hW14 => ?_)
      have hr15 : -2147483648 ≤ vr10 ∧ vr10 < 2147483648 := hr15
      refine ⟨rfl, ?_⟩
      exact ⟨rfl, fun hv hA' => hQ _ _ hR12 hA' (hv _ rfl) (fun ka ja hk => (hW14 ka ja (by omega)))⟩
    ·
      refine ⟨rfl, ?_⟩
      exact ⟨rfl, fun hv hA' => hQ _ _ hR hA' (hv _ rfl) (fun _ _ _ => rfl)⟩
  ·
    refine ⟨fun (c16 : ((w3 : Int) = 1)) => ?_, fun (c16 : (¬ ((w3 : Int) = 1))) => ?_⟩
    ·
      refine ⟨fun c => absurd c (show (¬ ((aa : Int) = 1)) from by first | omega | (simp only [wr, wl] at *; omega)), fun _ => ?_⟩
      refine ⟨fun _ => ?_, fun c => absurd c (show (¬ (aa : Int) = 2) from by first | omega | (simp only [wr, wl] at *; omega))⟩
      refine ⟨rfl, (by decide), ?_⟩
      refine ⟨fun c => absurd (show ((0 : Int) = 0) from by decide) c, fun _ => ?_⟩
      refine Call_wp (lv := [some (vi w3)]) (by decide) ckX12_above [] rfl rfl ?_
      refine ⟨fun _ => ?_, fun c => absurd c (show (¬ (w3 : Int) = 0) from by first | omega | (simp only [wr, wl] at *; omega))⟩
      refine ⟨fun _ => ?_, fun c => absurd c (show (¬ (w3 : Int) = 3) from by first | omega | (simp only [wr, wl] at *; omega))⟩
      refine ⟨fun _ => ?_, fun c => absurd c (show (¬ (w3 : Int) = 5) from by first | omega | (simp only [wr, wl] at *; omega))⟩
      refine ⟨rfl, ?_⟩
      refine Call_wp (lv := [some (vi 0), some (vi aa)]) (by decide) ckX12_hasOwn [] rfl rfl ?_
      refine ⟨fun _ => ?_, fun c => absurd (show ((0 : Int) = 0) from by decide) c⟩
      refine ⟨rfl, (by decide), ?_⟩
      refine ⟨fun _ => ?_, fun c => absurd c (show (¬ (1 : Int) = 0) from by decide)⟩
      refine ⟨_, rfl, (by decide), ?_⟩
      have a18 : -2147483648 ≤ (I 235 33) ∧ (I 235 33) < 2147483648 := hA.1 _ _
      refine ⟨fun (c19 : (((I 235 33) : Int) = 0)) => ?_, fun (c19 : (¬ (((I 235 33) : Int) = 0))) => ?_⟩
      ·
        refine ⟨⟨_, rfl, (by decide)⟩, ?_⟩
        refine r_body_0_3 (kk := 0) (aa := aa) (v0 := v0) hF hR (by omega) (by omega) (fun vr20 I21 hR22 hA23 hr25 hW24 => ?_)
        have hr25 : -2147483648 ≤ vr20 ∧ vr20 < 2147483648 := hr25
        refine ⟨rfl, ?_⟩
        exact ⟨rfl, fun hv hA' => hQ _ _ hR22 hA' (hv _ rfl) (fun ka ja hk => (hW24 ka ja (by omega)))⟩
      ·
        refine ⟨rfl, ?_⟩
        exact ⟨rfl, fun hv hA' => hQ _ _ hR hA' (hv _ rfl) (fun _ _ _ => rfl)⟩
    ·
      refine ⟨fun (c26 : ((w3 : Int) = 2)) => ?_, fun (c26 : (¬ ((w3 : Int) = 2))) => ?_⟩
      ·
        refine ⟨fun c => absurd c (show (¬ ((aa : Int) = 0)) from by first | omega | (simp only [wr, wl] at *; omega)), fun _ => ?_⟩
        refine ⟨fun c => absurd (show ((aa : Int) = 3) from by first | omega | (simp only [wr, wl] at *; omega)) c, fun _ => ?_⟩
        refine ⟨rfl, (by decide), ?_⟩
        refine ⟨fun _ => ?_, fun c => absurd c (show (¬ (1 : Int) = 0) from by decide)⟩
        refine ⟨_, rfl, (by decide), ?_⟩
        have a27 : -2147483648 ≤ (I 235 33) ∧ (I 235 33) < 2147483648 := hA.1 _ _
        refine ⟨fun (c28 : (((I 235 33) : Int) = 0)) => ?_, fun (c28 : (¬ (((I 235 33) : Int) = 0))) => ?_⟩
        ·
          refine ⟨⟨_, rfl, (by decide)⟩, ?_⟩
          refine r_body_2_3 (kk := w3) (aa := aa) (v0 := v0) hF hR (by omega) (by omega) (fun vr30 I31 hR32 hA33 hr35 hW34 => ?_)
          have hr35 : -2147483648 ≤ vr30 ∧ vr30 < 2147483648 := hr35
          refine ⟨rfl, ?_⟩
          exact ⟨rfl, fun hv hA' => hQ _ _ hR32 hA' (hv _ rfl) (fun ka ja hk => (hW34 ka ja (by omega)))⟩
        ·
          refine ⟨rfl, ?_⟩
          exact ⟨rfl, fun hv hA' => hQ _ _ hR hA' (hv _ rfl) (fun _ _ _ => rfl)⟩
      ·
        refine ⟨fun (c36 : ((w3 : Int) = 3)) => ?_, fun (c36 : (¬ ((w3 : Int) = 3))) => ?_⟩
        ·
          refine ⟨fun c => absurd c (show (¬ ((aa : Int) = 0)) from by first | omega | (simp only [wr, wl] at *; omega)), fun _ => ?_⟩
          refine ⟨fun _ => ?_, fun c => absurd c (show (¬ (aa : Int) = 2) from by first | omega | (simp only [wr, wl] at *; omega))⟩
          refine ⟨rfl, (by decide), ?_⟩
          refine ⟨fun c => absurd (show ((0 : Int) = 0) from by decide) c, fun _ => ?_⟩
          refine Call_wp (lv := [some (vi w3)]) (by decide) ckX12_above [] rfl rfl ?_
          refine ⟨fun _ => ?_, fun c => absurd c (show (¬ (w3 : Int) = 0) from by first | omega | (simp only [wr, wl] at *; omega))⟩
          refine ⟨fun c => absurd (show ((w3 : Int) = 3) from by first | omega | (simp only [wr, wl] at *; omega)) c, fun _ => ?_⟩
          refine ⟨rfl, ?_⟩
          refine Call_wp (lv := [some (vi 1), some (vi aa)]) (by decide) ckX12_hasOwn [] rfl rfl ?_
          refine ⟨fun c => absurd c (show (¬ ((1 : Int) = 0)) from by decide), fun _ => ?_⟩
          refine ⟨fun _ => ?_, fun c => absurd (show ((1 : Int) = 1) from by decide) c⟩
          refine ⟨fun c => absurd c (show (¬ ((aa : Int) = 1)) from by first | omega | (simp only [wr, wl] at *; omega)), fun _ => ?_⟩
          refine ⟨fun _ => ?_, fun c => absurd c (show (¬ (aa : Int) = 2) from by first | omega | (simp only [wr, wl] at *; omega))⟩
          refine ⟨rfl, (by decide), ?_⟩
          refine ⟨fun c => absurd (show ((0 : Int) = 0) from by decide) c, fun _ => ?_⟩
          refine Call_wp (lv := [some (vi 1)]) (by decide) ckX12_above [] rfl rfl ?_
          refine ⟨fun _ => ?_, fun c => absurd c (show (¬ (1 : Int) = 0) from by decide)⟩
          refine ⟨fun _ => ?_, fun c => absurd c (show (¬ (1 : Int) = 3) from by decide)⟩
          refine ⟨fun _ => ?_, fun c => absurd c (show (¬ (1 : Int) = 5) from by decide)⟩
          refine ⟨rfl, ?_⟩
          refine Call_wp (lv := [some (vi 0), some (vi aa)]) (by decide) ckX12_hasOwn [] rfl rfl ?_
          refine ⟨fun _ => ?_, fun c => absurd (show ((0 : Int) = 0) from by decide) c⟩
          refine ⟨rfl, (by decide), ?_⟩
          refine ⟨fun _ => ?_, fun c => absurd c (show (¬ (1 : Int) = 0) from by decide)⟩
          refine ⟨_, rfl, (by decide), ?_⟩
          have a38 : -2147483648 ≤ (I 235 33) ∧ (I 235 33) < 2147483648 := hA.1 _ _
          refine ⟨fun (c39 : (((I 235 33) : Int) = 0)) => ?_, fun (c39 : (¬ (((I 235 33) : Int) = 0))) => ?_⟩
          ·
            refine ⟨⟨_, rfl, (by decide)⟩, ?_⟩
            refine r_body_0_3 (kk := 0) (aa := aa) (v0 := v0) hF hR (by omega) (by omega) (fun vr40 I41 hR42 hA43 hr45 hW44 => ?_)
            have hr45 : -2147483648 ≤ vr40 ∧ vr40 < 2147483648 := hr45
            refine ⟨rfl, ?_⟩
            exact ⟨rfl, fun hv hA' => hQ _ _ hR42 hA' (hv _ rfl) (fun ka ja hk => (hW44 ka ja (by omega)))⟩
          ·
            refine ⟨rfl, ?_⟩
            exact ⟨rfl, fun hv hA' => hQ _ _ hR hA' (hv _ rfl) (fun _ _ _ => rfl)⟩
        ·
          refine ⟨fun (c46 : ((w3 : Int) = 4)) => ?_, fun (c46 : (¬ ((w3 : Int) = 4))) => ?_⟩
          ·
            refine ⟨fun _ => ?_, fun c => absurd c (show (¬ (aa : Int) = 2) from by first | omega | (simp only [wr, wl] at *; omega))⟩
            refine ⟨rfl, (by decide), ?_⟩
            refine ⟨fun c => absurd (show ((0 : Int) = 0) from by decide) c, fun _ => ?_⟩
            refine Call_wp (lv := [some (vi w3)]) (by decide) ckX12_above [] rfl rfl ?_
            refine ⟨fun _ => ?_, fun c => absurd c (show (¬ (w3 : Int) = 0) from by first | omega | (simp only [wr, wl] at *; omega))⟩
            refine ⟨fun _ => ?_, fun c => absurd c (show (¬ (w3 : Int) = 3) from by first | omega | (simp only [wr, wl] at *; omega))⟩
            refine ⟨fun _ => ?_, fun c => absurd c (show (¬ (w3 : Int) = 5) from by first | omega | (simp only [wr, wl] at *; omega))⟩
            refine ⟨rfl, ?_⟩
            refine Call_wp (lv := [some (vi 0), some (vi aa)]) (by decide) ckX12_hasOwn [] rfl rfl ?_
            refine ⟨fun _ => ?_, fun c => absurd (show ((0 : Int) = 0) from by decide) c⟩
            refine ⟨rfl, (by decide), ?_⟩
            refine ⟨fun _ => ?_, fun c => absurd c (show (¬ (1 : Int) = 0) from by decide)⟩
            refine ⟨_, rfl, (by decide), ?_⟩
            have a48 : -2147483648 ≤ (I 235 33) ∧ (I 235 33) < 2147483648 := hA.1 _ _
            refine ⟨fun (c49 : (((I 235 33) : Int) = 0)) => ?_, fun (c49 : (¬ (((I 235 33) : Int) = 0))) => ?_⟩
            ·
              refine ⟨⟨_, rfl, (by decide)⟩, ?_⟩
              refine r_body_0_3 (kk := 0) (aa := aa) (v0 := v0) hF hR (by omega) (by omega) (fun vr50 I51 hR52 hA53 hr55 hW54 => ?_)
              have hr55 : -2147483648 ≤ vr50 ∧ vr50 < 2147483648 := hr55
              refine ⟨rfl, ?_⟩
              exact ⟨rfl, fun hv hA' => hQ _ _ hR52 hA' (hv _ rfl) (fun ka ja hk => (hW54 ka ja (by omega)))⟩
            ·
              refine ⟨rfl, ?_⟩
              exact ⟨rfl, fun hv hA' => hQ _ _ hR hA' (hv _ rfl) (fun _ _ _ => rfl)⟩
          ·
            refine ⟨fun c => absurd c (show (¬ ((aa : Int) = 1)) from by first | omega | (simp only [wr, wl] at *; omega)), fun _ => ?_⟩
            refine ⟨fun c => absurd (show ((aa : Int) = 3) from by first | omega | (simp only [wr, wl] at *; omega)) c, fun _ => ?_⟩
            refine ⟨rfl, (by decide), ?_⟩
            refine ⟨fun _ => ?_, fun c => absurd c (show (¬ (1 : Int) = 0) from by decide)⟩
            refine ⟨_, rfl, (by decide), ?_⟩
            have a56 : -2147483648 ≤ (I 235 33) ∧ (I 235 33) < 2147483648 := hA.1 _ _
            refine ⟨fun (c57 : (((I 235 33) : Int) = 0)) => ?_, fun (c57 : (¬ (((I 235 33) : Int) = 0))) => ?_⟩
            ·
              refine ⟨⟨_, rfl, (by decide)⟩, ?_⟩
              refine r_body_5_3 (kk := w3) (aa := aa) (v0 := v0) hF hR (by omega) (by omega) (fun vr59 I60 hR61 hA62 hr64 hW63 => ?_)
              have hr64 : -2147483648 ≤ vr59 ∧ vr59 < 2147483648 := hr64
              refine ⟨rfl, ?_⟩
              exact ⟨rfl, fun hv hA' => hQ _ _ hR61 hA' (hv _ rfl) (fun ka ja hk => (hW63 ka ja (by omega)))⟩
            ·
              refine ⟨rfl, ?_⟩
              exact ⟨rfl, fun hv hA' => hQ _ _ hR hA' (hv _ rfl) (fun _ _ _ => rfl)⟩
theorem r_voice (hF : FS F) (hR : Rg I) {v0 v1 v2 : Int}  (hQ : ∀ (r : Int) (I' : pI), Rg I' → AR I' → iR r → (∀ k j, ¬ (k = 238 ∨ (k = 235 ∧ (j = 31 ∨ j = 32 ∨ j = 33)) ∨ k = 249) → I' k j = I k j) → Q (some (vi r)) F I') : CallN G (d + 23) kX12_voice [vr 235, vi v0, vi v1, vi v2] NP F I Q := by
  refine CallN_in (fun hok hA => CallN_out ?_)
  have iv0 : -2147483648 ≤ v0 ∧ v0 < 2147483648 := hok (vi v0) (by simp)
  have iv1 : -2147483648 ≤ v1 ∧ v1 < 2147483648 := hok (vi v1) (by simp)
  have iv2 : -2147483648 ≤ v2 ∧ v2 < 2147483648 := hok (vi v2) (by simp)
  refine Call_wp (lv := [some (vr 235), some (vi v0), some (vi v1), some (vi v2), none]) (by decide) ckX12_voice [] rfl rfl ?_
  refine ⟨⟨_, rfl, (by decide)⟩, ?_⟩
  have r1 : 0 ≤ (I 236 0) ∧ (I 236 0) ≤ 14 := Rg.n0 hR
  refine s_X12_is hF (w := 0) (by decide) (show 0 ≤ (I 236 0) ∧ (I 236 0) < 1000000 from by omega) (fun (w2 : (0 ≤ v0 ∧ v0 < (I 236 0))) => ?_) (fun (w2 : ¬ (0 ≤ v0 ∧ v0 < (I 236 0))) => ?_)
  ·
    refine ⟨fun c => absurd c (show (¬ ((1 : Int) = 0)) from by decide), fun _ => ?_⟩
    refine s_X12_within (fun (w3 : ((0 : Int) ≤ v1 ∧ (v1 : Int) ≤ 3)) => ?_) (fun (w3 : ¬ ((0 : Int) ≤ v1 ∧ (v1 : Int) ≤ 3)) => ?_)
    ·
      refine ⟨fun _ => ?_, fun c => absurd c (show (¬ (1 : Int) = 0) from by decide)⟩
      refine ⟨_, rfl, (by decide), ?_⟩
      have p4 : (0 : Int) ≤ 0 ∧ (0 : Int) ≤ 30 := by decide
      refine ⟨_, rfl, (by decide), ?_⟩
      have p5 : (0 : Int) ≤ v0 ∧ (v0 : Int) ≤ 13 := by first | omega | (simp only [wr, wl] at *; omega)
      refine ⟨_, rfl, (by decide), (by decide), ?_⟩
      refine ⟨⟨_, rfl, (by decide)⟩, ?_⟩
      rcases (show v1 = 0 ∨ v1 = 1 ∨ v1 = 2 ∨ v1 = 3 from by omega) with e6 | e6 | e6 | e6
      ·
        refine r_voiced_0 (aa := v1) (v0 := v2) hF (Rg.u (Rg.u (Rg.u hR (Pr_x31 p4)) (Pr_x32 p5)) (Pr_f rfl)) (by omega) (fun vr7 I8 hR9 hA10 hr12 hW11 => ?_)
        have hr12 : -2147483648 ≤ vr7 ∧ vr7 < 2147483648 := hr12
        refine ⟨_, rfl, (by decide), ?_⟩
        have a13 : -2147483648 ≤ (I8 235 33) ∧ (I8 235 33) < 2147483648 := hA10.1 _ _
        refine ⟨fun (c14 : (((I8 235 33) : Int) = 0)) => ?_, fun (c14 : (¬ (((I8 235 33) : Int) = 0))) => ?_⟩
        ·
          exact ⟨rfl, fun hv hA' => hQ _ _ hR9 hA' (hv _ rfl) (fun ka ja hk => ((hW11 ka ja (by omega))).trans (((uI_o (show ¬ (ka = 235 ∧ ja = 33) from by first | (intro e; obtain ⟨rfl, rfl⟩ := e; exact hk (by decide)) | omega))).trans (((uI_o (show ¬ (ka = 235 ∧ ja = 32) from by first | (intro e; obtain ⟨rfl, rfl⟩ := e; exact hk (by decide)) | omega))).trans ((uI_o (show ¬ (ka = 235 ∧ ja = 31) from by first | (intro e; obtain ⟨rfl, rfl⟩ := e; exact hk (by decide)) | omega))))))⟩
        ·
          refine ⟨⟨_, rfl, (by decide)⟩, ?_⟩
          refine s_X12_finding hF (v := (-1000006)) (by decide) ?_
          have u15 : (I8 238 6) = ((uI (uI (uI I 235 31 0) 235 32 v0) 235 33 0) 238 6) := hW11 _ _ (by first | decide | omega)
          have u16 : ((uI (uI (uI I 235 31 0) 235 32 v0) 235 33 0) 238 6) = (I 238 6) := rfl
          have a17 : -2147483648 ≤ (I 238 6) ∧ (I 238 6) < 2147483648 := hA.1 _ _
          have a18 : -2147483648 ≤ (I8 238 6) ∧ (I8 238 6) < 2147483648 := hA10.1 _ _
          exact ⟨rfl, fun hv hA' => hQ _ _ (Rg.u hR9 (Pr_f rfl)) hA' (hv _ rfl) (fun ka ja hk => ((uI_o (show ¬ (ka = 238 ∧ ja = 6) from by first | (intro e; obtain ⟨rfl, rfl⟩ := e; exact hk (by decide)) | omega))).trans (((hW11 ka ja (by omega))).trans (((uI_o (show ¬ (ka = 235 ∧ ja = 33) from by first | (intro e; obtain ⟨rfl, rfl⟩ := e; exact hk (by decide)) | omega))).trans (((uI_o (show ¬ (ka = 235 ∧ ja = 32) from by first | (intro e; obtain ⟨rfl, rfl⟩ := e; exact hk (by decide)) | omega))).trans ((uI_o (show ¬ (ka = 235 ∧ ja = 31) from by first | (intro e; obtain ⟨rfl, rfl⟩ := e; exact hk (by decide)) | omega)))))))⟩
      ·
        refine r_voiced_1 (aa := v1) (v0 := v2) hF (Rg.u (Rg.u (Rg.u hR (Pr_x31 p4)) (Pr_x32 p5)) (Pr_f rfl)) (by omega) (fun vr19 I20 hR21 hA22 hr24 hW23 => ?_)
        have hr24 : -2147483648 ≤ vr19 ∧ vr19 < 2147483648 := hr24
        refine ⟨_, rfl, (by decide), ?_⟩
        have a25 : -2147483648 ≤ (I20 235 33) ∧ (I20 235 33) < 2147483648 := hA22.1 _ _
        refine ⟨fun (c26 : (((I20 235 33) : Int) = 0)) => ?_, fun (c26 : (¬ (((I20 235 33) : Int) = 0))) => ?_⟩
        ·
          exact ⟨rfl, fun hv hA' => hQ _ _ hR21 hA' (hv _ rfl) (fun ka ja hk => ((hW23 ka ja (by omega))).trans (((uI_o (show ¬ (ka = 235 ∧ ja = 33) from by first | (intro e; obtain ⟨rfl, rfl⟩ := e; exact hk (by decide)) | omega))).trans (((uI_o (show ¬ (ka = 235 ∧ ja = 32) from by first | (intro e; obtain ⟨rfl, rfl⟩ := e; exact hk (by decide)) | omega))).trans ((uI_o (show ¬ (ka = 235 ∧ ja = 31) from by first | (intro e; obtain ⟨rfl, rfl⟩ := e; exact hk (by decide)) | omega))))))⟩
        ·
          refine ⟨⟨_, rfl, (by decide)⟩, ?_⟩
          refine s_X12_finding hF (v := (-1000006)) (by decide) ?_
          have u27 : (I20 238 6) = ((uI (uI (uI I 235 31 0) 235 32 v0) 235 33 0) 238 6) := hW23 _ _ (by first | decide | omega)
          have u28 : ((uI (uI (uI I 235 31 0) 235 32 v0) 235 33 0) 238 6) = (I 238 6) := rfl
          have a29 : -2147483648 ≤ (I 238 6) ∧ (I 238 6) < 2147483648 := hA.1 _ _
          have a30 : -2147483648 ≤ (I20 238 6) ∧ (I20 238 6) < 2147483648 := hA22.1 _ _
          exact ⟨rfl, fun hv hA' => hQ _ _ (Rg.u hR21 (Pr_f rfl)) hA' (hv _ rfl) (fun ka ja hk => ((uI_o (show ¬ (ka = 238 ∧ ja = 6) from by first | (intro e; obtain ⟨rfl, rfl⟩ := e; exact hk (by decide)) | omega))).trans (((hW23 ka ja (by omega))).trans (((uI_o (show ¬ (ka = 235 ∧ ja = 33) from by first | (intro e; obtain ⟨rfl, rfl⟩ := e; exact hk (by decide)) | omega))).trans (((uI_o (show ¬ (ka = 235 ∧ ja = 32) from by first | (intro e; obtain ⟨rfl, rfl⟩ := e; exact hk (by decide)) | omega))).trans ((uI_o (show ¬ (ka = 235 ∧ ja = 31) from by first | (intro e; obtain ⟨rfl, rfl⟩ := e; exact hk (by decide)) | omega)))))))⟩
      ·
        refine r_voiced_2 (aa := v1) (v0 := v2) hF (Rg.u (Rg.u (Rg.u hR (Pr_x31 p4)) (Pr_x32 p5)) (Pr_f rfl)) (by omega) (fun vr31 I32 hR33 hA34 hr36 hW35 => ?_)
        have hr36 : -2147483648 ≤ vr31 ∧ vr31 < 2147483648 := hr36
        refine ⟨_, rfl, (by decide), ?_⟩
        have a37 : -2147483648 ≤ (I32 235 33) ∧ (I32 235 33) < 2147483648 := hA34.1 _ _
        refine ⟨fun (c38 : (((I32 235 33) : Int) = 0)) => ?_, fun (c38 : (¬ (((I32 235 33) : Int) = 0))) => ?_⟩
        ·
          exact ⟨rfl, fun hv hA' => hQ _ _ hR33 hA' (hv _ rfl) (fun ka ja hk => ((hW35 ka ja (by omega))).trans (((uI_o (show ¬ (ka = 235 ∧ ja = 33) from by first | (intro e; obtain ⟨rfl, rfl⟩ := e; exact hk (by decide)) | omega))).trans (((uI_o (show ¬ (ka = 235 ∧ ja = 32) from by first | (intro e; obtain ⟨rfl, rfl⟩ := e; exact hk (by decide)) | omega))).trans ((uI_o (show ¬ (ka = 235 ∧ ja = 31) from by first | (intro e; obtain ⟨rfl, rfl⟩ := e; exact hk (by decide)) | omega))))))⟩
        ·
          refine ⟨⟨_, rfl, (by decide)⟩, ?_⟩
          refine s_X12_finding hF (v := (-1000006)) (by decide) ?_
          have u39 : (I32 238 6) = ((uI (uI (uI I 235 31 0) 235 32 v0) 235 33 0) 238 6) := hW35 _ _ (by first | decide | omega)
          have u40 : ((uI (uI (uI I 235 31 0) 235 32 v0) 235 33 0) 238 6) = (I 238 6) := rfl
          have a41 : -2147483648 ≤ (I 238 6) ∧ (I 238 6) < 2147483648 := hA.1 _ _
          have a42 : -2147483648 ≤ (I32 238 6) ∧ (I32 238 6) < 2147483648 := hA34.1 _ _
          exact ⟨rfl, fun hv hA' => hQ _ _ (Rg.u hR33 (Pr_f rfl)) hA' (hv _ rfl) (fun ka ja hk => ((uI_o (show ¬ (ka = 238 ∧ ja = 6) from by first | (intro e; obtain ⟨rfl, rfl⟩ := e; exact hk (by decide)) | omega))).trans (((hW35 ka ja (by omega))).trans (((uI_o (show ¬ (ka = 235 ∧ ja = 33) from by first | (intro e; obtain ⟨rfl, rfl⟩ := e; exact hk (by decide)) | omega))).trans (((uI_o (show ¬ (ka = 235 ∧ ja = 32) from by first | (intro e; obtain ⟨rfl, rfl⟩ := e; exact hk (by decide)) | omega))).trans ((uI_o (show ¬ (ka = 235 ∧ ja = 31) from by first | (intro e; obtain ⟨rfl, rfl⟩ := e; exact hk (by decide)) | omega)))))))⟩
      ·
        refine r_voiced_3 (aa := v1) (v0 := v2) hF (Rg.u (Rg.u (Rg.u hR (Pr_x31 p4)) (Pr_x32 p5)) (Pr_f rfl)) (by omega) (fun vr43 I44 hR45 hA46 hr48 hW47 => ?_)
        have hr48 : -2147483648 ≤ vr43 ∧ vr43 < 2147483648 := hr48
        refine ⟨_, rfl, (by decide), ?_⟩
        have a49 : -2147483648 ≤ (I44 235 33) ∧ (I44 235 33) < 2147483648 := hA46.1 _ _
        refine ⟨fun (c50 : (((I44 235 33) : Int) = 0)) => ?_, fun (c50 : (¬ (((I44 235 33) : Int) = 0))) => ?_⟩
        ·
          exact ⟨rfl, fun hv hA' => hQ _ _ hR45 hA' (hv _ rfl) (fun ka ja hk => ((hW47 ka ja (by omega))).trans (((uI_o (show ¬ (ka = 235 ∧ ja = 33) from by first | (intro e; obtain ⟨rfl, rfl⟩ := e; exact hk (by decide)) | omega))).trans (((uI_o (show ¬ (ka = 235 ∧ ja = 32) from by first | (intro e; obtain ⟨rfl, rfl⟩ := e; exact hk (by decide)) | omega))).trans ((uI_o (show ¬ (ka = 235 ∧ ja = 31) from by first | (intro e; obtain ⟨rfl, rfl⟩ := e; exact hk (by decide)) | omega))))))⟩
        ·
          refine ⟨⟨_, rfl, (by decide)⟩, ?_⟩
          refine s_X12_finding hF (v := (-1000006)) (by decide) ?_
          have u51 : (I44 238 6) = ((uI (uI (uI I 235 31 0) 235 32 v0) 235 33 0) 238 6) := hW47 _ _ (by first | decide | omega)
          have u52 : ((uI (uI (uI I 235 31 0) 235 32 v0) 235 33 0) 238 6) = (I 238 6) := rfl
          have a53 : -2147483648 ≤ (I 238 6) ∧ (I 238 6) < 2147483648 := hA.1 _ _
          have a54 : -2147483648 ≤ (I44 238 6) ∧ (I44 238 6) < 2147483648 := hA46.1 _ _
          exact ⟨rfl, fun hv hA' => hQ _ _ (Rg.u hR45 (Pr_f rfl)) hA' (hv _ rfl) (fun ka ja hk => ((uI_o (show ¬ (ka = 238 ∧ ja = 6) from by first | (intro e; obtain ⟨rfl, rfl⟩ := e; exact hk (by decide)) | omega))).trans (((hW47 ka ja (by omega))).trans (((uI_o (show ¬ (ka = 235 ∧ ja = 33) from by first | (intro e; obtain ⟨rfl, rfl⟩ := e; exact hk (by decide)) | omega))).trans (((uI_o (show ¬ (ka = 235 ∧ ja = 32) from by first | (intro e; obtain ⟨rfl, rfl⟩ := e; exact hk (by decide)) | omega))).trans ((uI_o (show ¬ (ka = 235 ∧ ja = 31) from by first | (intro e; obtain ⟨rfl, rfl⟩ := e; exact hk (by decide)) | omega)))))))⟩
    ·
      refine ⟨fun c => absurd (show ((0 : Int) = 0) from by decide) c, fun _ => ?_⟩
      refine ⟨⟨_, rfl, (by decide)⟩, ?_⟩
      refine s_X12_finding hF (v := (-1000001)) (by decide) ?_
      exact ⟨rfl, fun hv hA' => hQ _ _ (Rg.u hR (Pr_f rfl)) hA' (hv _ rfl) (fun ka ja hk => (uI_o (show ¬ (ka = 238 ∧ ja = 1) from by first | (intro e; obtain ⟨rfl, rfl⟩ := e; exact hk (by decide)) | omega)))⟩
  ·
    refine ⟨fun _ => ?_, fun c => absurd (show ((0 : Int) = 0) from by decide) c⟩
    refine ⟨⟨_, rfl, (by decide)⟩, ?_⟩
    refine s_X12_finding hF (v := (-1000001)) (by decide) ?_
    exact ⟨rfl, fun hv hA' => hQ _ _ (Rg.u hR (Pr_f rfl)) hA' (hv _ rfl) (fun ka ja hk => (uI_o (show ¬ (ka = 238 ∧ ja = 1) from by first | (intro e; obtain ⟨rfl, rfl⟩ := e; exact hk (by decide)) | omega)))⟩
end RV
