/-! the calls of the class, from any state. Own work (scripts laid by wip/pm/gen31.py). -/
section CC
variable {G : pG} {d : Nat} {F : pF} {I : pI} {Q : Option pV → pF → pI → Prop}
theorem c_orderCurves_l (hF : FS F) (hR : Rg I) {v0 v1 : Int}  (hQ : ∀ (I' : pI), Rg I' → (∀ k j, ¬ (223 ≤ k ∧ k ≤ 225) → I' k j = I k j) → Q none F I') : ∀ (mz : Nat) (i : Int) (J : pI), Rg J → (∀ k j, ¬ (223 ≤ k ∧ k ≤ 225) → J k j = I k j) → ((0 : Int) ≤ i) → ((i : Int) ≤ 14) → (14 - i).toNat < mz → GoN G (d + 3) kX11_orderCurves NP NP 9 [some (vr 0), some (vi v0), some (vi v1), some (vi i), none, none] [] F J Q := by
  intro mz
  induction mz with
  | zero => intro i J hJ hV _ _ h; exact absurd h (Nat.not_lt_zero _)
  | succ mz ih =>
    intro i J hJ hV c100 c101 hm
    refine GoN_in (fun hok hA => ?_)
    have iiv0 : -2147483648 ≤ v0 ∧ v0 < 2147483648 := hok 1 _ rfl
    have iiv1 : -2147483648 ≤ v1 ∧ v1 < 2147483648 := hok 2 _ rfl
    have iii : -2147483648 ≤ i ∧ i < 2147483648 := hok 3 _ rfl
    refine Go_wp (by decide) ckX11_orderCurves [9] ?_
    refine ⟨fun (c1 : ((14 : Int) ≤ i)) => ?_, fun (c1 : (¬ ((14 : Int) ≤ i))) => ?_⟩
    ·
      exact ⟨rfl, hQ _ hJ (fun ka ja hk => (hV ka ja (by omega)))⟩
    ·
      refine ⟨_, rfl, (by decide), ?_⟩
      refine fun w0 hw0 => ?_; obtain rfl : w0 = some 1 := hw0.symm.trans (FS.g hF rfl)
      refine ⟨⟨_, rfl, (by decide)⟩, ?_⟩
      have u2 : (J 1 1) = (I 1 1) := hV _ _ (by first | decide | omega)
      have a3 : -2147483648 ≤ (J 1 1) ∧ (J 1 1) < 2147483648 := hA.1 _ _
      refine s_X8_pieceAt hF (S := 1) (Or.inl rfl) (fun (w4 : (0 ≤ i ∧ i < (J 1 1) ∧ i < 14)) => ?_) (fun (w4 : ¬ (0 ≤ i ∧ i < (J 1 1) ∧ i < 14)) => ?_)
      ·
        have hp5 : PP F (1 + 19 + 5 * Int.toNat i) := PP_of hF (by omega)
        refine ⟨_, hp5.1.1, (by have := hp5.2; show _ < 254; omega), ?_⟩
        have a6 : -2147483648 ≤ (J (1 + 19 + 5 * Int.toNat i) 1) ∧ (J (1 + 19 + 5 * Int.toNat i) 1) < 2147483648 := hA.1 _ _
        refine ⟨fun (c7 : (((J (1 + 19 + 5 * Int.toNat i) 1) : Int) = v0)) => ?_, fun (c7 : (¬ (((J (1 + 19 + 5 * Int.toNat i) 1) : Int) = v0))) => ?_⟩
        ·
          refine ⟨_, hp5.1.1, (by have := hp5.2; show _ < 254; omega), ?_⟩
          refine fun w0 hw0 => ?_; obtain rfl : w0 = some ((1 + 19 + 5 * Int.toNat i) + 2) := hw0.symm.trans hp5.1.2.2.2.2.1
          refine ⟨⟨_, hp5.r.1.1, (by have := hp5.r.2; show _ < 254; omega)⟩, ?_⟩
          refine c_curveAt (v0 := v1) hF hJ hp5.r (fun vr8 hr9 => ?_)
          have hr9 : -2147483648 ≤ vr8 ∧ vr8 < 2147483648 := hr9
          refine ⟨fun (c10 : ((vr8 : Int) < 0)) => ?_, fun (c10 : (¬ ((vr8 : Int) < 0))) => ?_⟩
          ·
            refine GoN_lv (lv' := [some (vr 0), some (vi v0), some (vi v1), some (vi (wr (i + 1))), none, none]) (LvLe.k (LvLe.k (LvLe.k (LvLe.k (LvLe.d (LvLe.d LvLe.n)))))) ?_
            have n11 : (wr (i + 1)) = i + 1 := wr_id (show -2147483648 ≤ (i + 1 : Int) ∧ (i + 1 : Int) < 2147483648 from by omega)
            exact ih (wr (i + 1)) J hJ (fun ka ja hk => (hV ka ja (by omega))) (show (0 : Int) ≤ (wr (i + 1)) from by first | with_reducible assumption | omega | (simp only [wr, wl] at *; omega)) (show ((wr (i + 1)) : Int) ≤ 14 from by first | with_reducible assumption | omega | (simp only [wr, wl] at *; omega)) (show (14 - (wr (i + 1))).toNat < mz from by omega)
          ·
            refine ⟨_, rfl, (by decide), ?_⟩
            refine fun w0 hw0 => ?_; obtain rfl : w0 = some 223 := hw0.symm.trans (FS.g hF rfl)
            refine ⟨⟨_, rfl, (by decide)⟩, ?_⟩
            refine c_insert  hF hJ (fun I12 hR13 hA14 hW15 => ?_)
            refine GoN_lv (lv' := [some (vr 0), some (vi v0), some (vi v1), some (vi (wr (i + 1))), none, none]) (LvLe.k (LvLe.k (LvLe.k (LvLe.k (LvLe.d (LvLe.d LvLe.n)))))) ?_
            have n16 : (wr (i + 1)) = i + 1 := wr_id (show -2147483648 ≤ (i + 1 : Int) ∧ (i + 1 : Int) < 2147483648 from by omega)
            exact ih (wr (i + 1)) I12 hR13 (fun ka ja hk => ((hW15 ka ja (by omega))).trans ((hV ka ja (by omega)))) (show (0 : Int) ≤ (wr (i + 1)) from by first | with_reducible assumption | omega | (simp only [wr, wl] at *; omega)) (show ((wr (i + 1)) : Int) ≤ 14 from by first | with_reducible assumption | omega | (simp only [wr, wl] at *; omega)) (show (14 - (wr (i + 1))).toNat < mz from by omega)
        ·
          refine ⟨fun _ => ?_, fun c => absurd (show (((-1) : Int) < 0) from by decide) c⟩
          refine GoN_lv (lv' := [some (vr 0), some (vi v0), some (vi v1), some (vi (wr (i + 1))), none, none]) (LvLe.k (LvLe.k (LvLe.k (LvLe.k (LvLe.d (LvLe.d LvLe.n)))))) ?_
          have n17 : (wr (i + 1)) = i + 1 := wr_id (show -2147483648 ≤ (i + 1 : Int) ∧ (i + 1 : Int) < 2147483648 from by omega)
          exact ih (wr (i + 1)) J hJ (fun ka ja hk => (hV ka ja (by omega))) (show (0 : Int) ≤ (wr (i + 1)) from by first | with_reducible assumption | omega | (simp only [wr, wl] at *; omega)) (show ((wr (i + 1)) : Int) ≤ 14 from by first | with_reducible assumption | omega | (simp only [wr, wl] at *; omega)) (show (14 - (wr (i + 1))).toNat < mz from by omega)
      ·
        refine ⟨fun _ => ?_, fun c => absurd (show (((-1) : Int) < 0) from by decide) c⟩
        refine GoN_lv (lv' := [some (vr 0), some (vi v0), some (vi v1), some (vi (wr (i + 1))), none, none]) (LvLe.k (LvLe.k (LvLe.k (LvLe.k (LvLe.d (LvLe.d LvLe.n)))))) ?_
        have n18 : (wr (i + 1)) = i + 1 := wr_id (show -2147483648 ≤ (i + 1 : Int) ∧ (i + 1 : Int) < 2147483648 from by omega)
        exact ih (wr (i + 1)) J hJ (fun ka ja hk => (hV ka ja (by omega))) (show (0 : Int) ≤ (wr (i + 1)) from by first | with_reducible assumption | omega | (simp only [wr, wl] at *; omega)) (show ((wr (i + 1)) : Int) ≤ 14 from by first | with_reducible assumption | omega | (simp only [wr, wl] at *; omega)) (show (14 - (wr (i + 1))).toNat < mz from by omega)
theorem c_orderCurves (hF : FS F) (hR : Rg I) {v0 v1 : Int}  (hQ : ∀ (I' : pI), Rg I' → AR I' → (∀ k j, ¬ (223 ≤ k ∧ k ≤ 225) → I' k j = I k j) → Q none F I') : CallN G (d + 3) kX11_orderCurves [vr 0, vi v0, vi v1] NP F I Q := by
  refine CallN_in (fun hok hA => CallN_out ?_)
  have iv0 : -2147483648 ≤ v0 ∧ v0 < 2147483648 := hok (vi v0) (by simp)
  have iv1 : -2147483648 ≤ v1 ∧ v1 < 2147483648 := hok (vi v1) (by simp)
  refine Call_wp (lv := [some (vr 0), some (vi v0), some (vi v1), none, none, none]) (by decide) ckX11_orderCurves [9] rfl rfl ?_
  refine ⟨_, rfl, (by decide), ?_⟩
  refine fun w0 hw0 => ?_; obtain rfl : w0 = some 223 := hw0.symm.trans (FS.g hF rfl)
  refine ⟨⟨_, rfl, (by decide)⟩, ?_⟩
  refine Call_wp (lv := [some (vr 223)]) (by decide) ckX3_clear [] rfl rfl ?_
  refine ⟨_, rfl, (by decide), ?_⟩
  refine ⟨rfl, ?_⟩
  refine c_orderCurves_l hF hR  (fun I' g1 g2 hv hA' => hQ _ g1 hA' g2) _ 0 (uI I 223 2 0) (Rg.u hR (Pr_f rfl)) (fun ka ja hk => (uI_o (show ¬ (ka = 223 ∧ ja = 2) from by first | (intro e; obtain ⟨rfl, rfl⟩ := e; exact hk (by decide)) | omega))) (show (0 : Int) ≤ (0 : Int) from Int.le_refl _) (show ((0 : Int) : Int) ≤ 14 from by first | with_reducible assumption | omega | (simp only [wr, wl] at *; omega)) (Nat.lt_succ_self _)
theorem c_orderNumbers_l (hF : FS F) (hR : Rg I) {v0 v1 : Int}  (hQ : ∀ (I' : pI), Rg I' → (∀ k j, ¬ (223 ≤ k ∧ k ≤ 225 ∨ (20 ≤ k ∧ k < 90 ∧ k % 5 = 2 ∧ 3 ≤ j)) → I' k j = I k j) → Q none F I') : ∀ (mz : Nat) (i : Int) (J : pI), Rg J → (∀ k j, ¬ (223 ≤ k ∧ k ≤ 225 ∨ (20 ≤ k ∧ k < 90 ∧ k % 5 = 2 ∧ 3 ≤ j)) → J k j = I k j) → ((0 : Int) ≤ i) → ((i : Int) ≤ 14) → (14 - i).toNat < mz → GoN G (d + 6) kX11_orderNumbers NP NP 9 [some (vr 0), some (vi v0), some (vi v1), some (vi i), none, none] [] F J Q := by
  intro mz
  induction mz with
  | zero => intro i J hJ hV _ _ h; exact absurd h (Nat.not_lt_zero _)
  | succ mz ih =>
    intro i J hJ hV c100 c101 hm
    refine GoN_in (fun hok hA => ?_)
    have iiv0 : -2147483648 ≤ v0 ∧ v0 < 2147483648 := hok 1 _ rfl
    have iiv1 : -2147483648 ≤ v1 ∧ v1 < 2147483648 := hok 2 _ rfl
    have iii : -2147483648 ≤ i ∧ i < 2147483648 := hok 3 _ rfl
    refine Go_wp (by decide) ckX11_orderNumbers [9] ?_
    refine ⟨fun (c1 : ((14 : Int) ≤ i)) => ?_, fun (c1 : (¬ ((14 : Int) ≤ i))) => ?_⟩
    ·
      exact ⟨rfl, hQ _ hJ (fun ka ja hk => (hV ka ja (by omega)))⟩
    ·
      refine ⟨_, rfl, (by decide), ?_⟩
      refine fun w0 hw0 => ?_; obtain rfl : w0 = some 1 := hw0.symm.trans (FS.g hF rfl)
      refine ⟨⟨_, rfl, (by decide)⟩, ?_⟩
      have u2 : (J 1 1) = (I 1 1) := hV _ _ (by first | decide | omega)
      have a3 : -2147483648 ≤ (J 1 1) ∧ (J 1 1) < 2147483648 := hA.1 _ _
      refine s_X8_pieceAt hF (S := 1) (Or.inl rfl) (fun (w4 : (0 ≤ i ∧ i < (J 1 1) ∧ i < 14)) => ?_) (fun (w4 : ¬ (0 ≤ i ∧ i < (J 1 1) ∧ i < 14)) => ?_)
      ·
        have hp5 : PP F (1 + 19 + 5 * Int.toNat i) := PP_of hF (by omega)
        refine ⟨_, hp5.1.1, (by have := hp5.2; show _ < 254; omega), ?_⟩
        have a6 : -2147483648 ≤ (J (1 + 19 + 5 * Int.toNat i) 1) ∧ (J (1 + 19 + 5 * Int.toNat i) 1) < 2147483648 := hA.1 _ _
        refine ⟨fun (c7 : (((J (1 + 19 + 5 * Int.toNat i) 1) : Int) = v0)) => ?_, fun (c7 : (¬ (((J (1 + 19 + 5 * Int.toNat i) 1) : Int) = v0))) => ?_⟩
        ·
          refine ⟨_, hp5.1.1, (by have := hp5.2; show _ < 254; omega), ?_⟩
          refine fun w0 hw0 => ?_; obtain rfl : w0 = some ((1 + 19 + 5 * Int.toNat i) + 2) := hw0.symm.trans hp5.1.2.2.2.2.1
          refine ⟨⟨_, hp5.r.1.1, (by have := hp5.r.2; show _ < 254; omega)⟩, ?_⟩
          refine c_numberBy (v0 := v1) hF hJ hp5.r (fun vr8 I9 hR10 hA11 hr13 hW12 => ?_)
          have hr13 : -2147483648 ≤ vr8 ∧ vr8 < 2147483648 := hr13
          refine ⟨fun (c14 : ((vr8 : Int) < 0)) => ?_, fun (c14 : (¬ ((vr8 : Int) < 0))) => ?_⟩
          ·
            refine GoN_lv (lv' := [some (vr 0), some (vi v0), some (vi v1), some (vi (wr (i + 1))), none, none]) (LvLe.k (LvLe.k (LvLe.k (LvLe.k (LvLe.d (LvLe.d LvLe.n)))))) ?_
            have n15 : (wr (i + 1)) = i + 1 := wr_id (show -2147483648 ≤ (i + 1 : Int) ∧ (i + 1 : Int) < 2147483648 from by omega)
            exact ih (wr (i + 1)) I9 hR10 (fun ka ja hk => ((hW12 ka ja (by omega))).trans ((hV ka ja (by omega)))) (show (0 : Int) ≤ (wr (i + 1)) from by first | with_reducible assumption | omega | (simp only [wr, wl] at *; omega)) (show ((wr (i + 1)) : Int) ≤ 14 from by first | with_reducible assumption | omega | (simp only [wr, wl] at *; omega)) (show (14 - (wr (i + 1))).toNat < mz from by omega)
          ·
            refine ⟨_, rfl, (by decide), ?_⟩
            refine fun w0 hw0 => ?_; obtain rfl : w0 = some 223 := hw0.symm.trans (FS.g hF rfl)
            refine ⟨⟨_, rfl, (by decide)⟩, ?_⟩
            refine c_insert  hF hR10 (fun I16 hR17 hA18 hW19 => ?_)
            refine GoN_lv (lv' := [some (vr 0), some (vi v0), some (vi v1), some (vi (wr (i + 1))), none, none]) (LvLe.k (LvLe.k (LvLe.k (LvLe.k (LvLe.d (LvLe.d LvLe.n)))))) ?_
            have n20 : (wr (i + 1)) = i + 1 := wr_id (show -2147483648 ≤ (i + 1 : Int) ∧ (i + 1 : Int) < 2147483648 from by omega)
            exact ih (wr (i + 1)) I16 hR17 (fun ka ja hk => ((hW19 ka ja (by omega))).trans (((hW12 ka ja (by omega))).trans ((hV ka ja (by omega))))) (show (0 : Int) ≤ (wr (i + 1)) from by first | with_reducible assumption | omega | (simp only [wr, wl] at *; omega)) (show ((wr (i + 1)) : Int) ≤ 14 from by first | with_reducible assumption | omega | (simp only [wr, wl] at *; omega)) (show (14 - (wr (i + 1))).toNat < mz from by omega)
        ·
          refine ⟨fun _ => ?_, fun c => absurd (show (((-1) : Int) < 0) from by decide) c⟩
          refine GoN_lv (lv' := [some (vr 0), some (vi v0), some (vi v1), some (vi (wr (i + 1))), none, none]) (LvLe.k (LvLe.k (LvLe.k (LvLe.k (LvLe.d (LvLe.d LvLe.n)))))) ?_
          have n21 : (wr (i + 1)) = i + 1 := wr_id (show -2147483648 ≤ (i + 1 : Int) ∧ (i + 1 : Int) < 2147483648 from by omega)
          exact ih (wr (i + 1)) J hJ (fun ka ja hk => (hV ka ja (by omega))) (show (0 : Int) ≤ (wr (i + 1)) from by first | with_reducible assumption | omega | (simp only [wr, wl] at *; omega)) (show ((wr (i + 1)) : Int) ≤ 14 from by first | with_reducible assumption | omega | (simp only [wr, wl] at *; omega)) (show (14 - (wr (i + 1))).toNat < mz from by omega)
      ·
        refine ⟨fun _ => ?_, fun c => absurd (show (((-1) : Int) < 0) from by decide) c⟩
        refine GoN_lv (lv' := [some (vr 0), some (vi v0), some (vi v1), some (vi (wr (i + 1))), none, none]) (LvLe.k (LvLe.k (LvLe.k (LvLe.k (LvLe.d (LvLe.d LvLe.n)))))) ?_
        have n22 : (wr (i + 1)) = i + 1 := wr_id (show -2147483648 ≤ (i + 1 : Int) ∧ (i + 1 : Int) < 2147483648 from by omega)
        exact ih (wr (i + 1)) J hJ (fun ka ja hk => (hV ka ja (by omega))) (show (0 : Int) ≤ (wr (i + 1)) from by first | with_reducible assumption | omega | (simp only [wr, wl] at *; omega)) (show ((wr (i + 1)) : Int) ≤ 14 from by first | with_reducible assumption | omega | (simp only [wr, wl] at *; omega)) (show (14 - (wr (i + 1))).toNat < mz from by omega)
theorem c_orderNumbers (hF : FS F) (hR : Rg I) {v0 v1 : Int}  (hQ : ∀ (I' : pI), Rg I' → AR I' → (∀ k j, ¬ (223 ≤ k ∧ k ≤ 225 ∨ (20 ≤ k ∧ k < 90 ∧ k % 5 = 2 ∧ 3 ≤ j)) → I' k j = I k j) → Q none F I') : CallN G (d + 6) kX11_orderNumbers [vr 0, vi v0, vi v1] NP F I Q := by
  refine CallN_in (fun hok hA => CallN_out ?_)
  have iv0 : -2147483648 ≤ v0 ∧ v0 < 2147483648 := hok (vi v0) (by simp)
  have iv1 : -2147483648 ≤ v1 ∧ v1 < 2147483648 := hok (vi v1) (by simp)
  refine Call_wp (lv := [some (vr 0), some (vi v0), some (vi v1), none, none, none]) (by decide) ckX11_orderNumbers [9] rfl rfl ?_
  refine ⟨_, rfl, (by decide), ?_⟩
  refine fun w0 hw0 => ?_; obtain rfl : w0 = some 223 := hw0.symm.trans (FS.g hF rfl)
  refine ⟨⟨_, rfl, (by decide)⟩, ?_⟩
  refine Call_wp (lv := [some (vr 223)]) (by decide) ckX3_clear [] rfl rfl ?_
  refine ⟨_, rfl, (by decide), ?_⟩
  refine ⟨rfl, ?_⟩
  refine c_orderNumbers_l hF hR  (fun I' g1 g2 hv hA' => hQ _ g1 hA' g2) _ 0 (uI I 223 2 0) (Rg.u hR (Pr_f rfl)) (fun ka ja hk => (uI_o (show ¬ (ka = 223 ∧ ja = 2) from by first | (intro e; obtain ⟨rfl, rfl⟩ := e; exact hk (by decide)) | omega))) (show (0 : Int) ≤ (0 : Int) from Int.le_refl _) (show ((0 : Int) : Int) ≤ 14 from by first | with_reducible assumption | omega | (simp only [wr, wl] at *; omega)) (Nat.lt_succ_self _)
theorem c_pieceIs (hF : FS F) (hR : Rg I) {v0 v1 : Int}  (hQ : ∀ (r : Int) (I' : pI), Rg I' → AR I' → iR r → (∀ k j, ¬ (k = 203) → I' k j = I k j) → Q (some (vi r)) F I') : CallN G (d + 3) kX11_pieceIs [vr 0, vi v0, vi v1] NP F I Q := by
  refine CallN_in (fun hok hA => CallN_out ?_)
  have iv0 : -2147483648 ≤ v0 ∧ v0 < 2147483648 := hok (vi v0) (by simp)
  have iv1 : -2147483648 ≤ v1 ∧ v1 < 2147483648 := hok (vi v1) (by simp)
  refine Call_wp (lv := [some (vr 0), some (vi v0), some (vi v1), none]) (by decide) ckX11_pieceIs [] rfl rfl ?_
  refine ⟨_, rfl, (by decide), ?_⟩
  refine fun w0 hw0 => ?_; obtain rfl : w0 = some 1 := hw0.symm.trans (FS.g hF rfl)
  refine ⟨⟨_, rfl, (by decide)⟩, ?_⟩
  refine s_X8_pieceAt hF (S := 1) (Or.inl rfl) (fun (w1 : (0 ≤ v0 ∧ v0 < (I 1 1) ∧ v0 < 14)) => ?_) (fun (w1 : ¬ (0 ≤ v0 ∧ v0 < (I 1 1) ∧ v0 < 14)) => ?_)
  ·
    have hp2 : PP F (1 + 19 + 5 * Int.toNat v0) := PP_of hF (by omega)
    refine ⟨fun (c3 : ((v1 : Int) = 0)) => ?_, fun (c3 : (¬ ((v1 : Int) = 0))) => ?_⟩
    ·
      refine ⟨_, hp2.1.1, (by have := hp2.2; show _ < 254; omega), ?_⟩
      exact ⟨rfl, fun hv hA' => hQ _ _ hR hA' (hv _ rfl) (fun _ _ _ => rfl)⟩
    ·
      refine ⟨fun (c4 : ((v1 : Int) = 1)) => ?_, fun (c4 : (¬ ((v1 : Int) = 1))) => ?_⟩
      ·
        refine ⟨_, hp2.1.1, (by have := hp2.2; show _ < 254; omega), ?_⟩
        exact ⟨rfl, fun hv hA' => hQ _ _ hR hA' (hv _ rfl) (fun _ _ _ => rfl)⟩
      ·
        refine ⟨fun (c5 : ((v1 : Int) = 2)) => ?_, fun (c5 : (¬ ((v1 : Int) = 2))) => ?_⟩
        ·
          refine ⟨_, hp2.1.1, (by have := hp2.2; show _ < 254; omega), ?_⟩
          exact ⟨rfl, fun hv hA' => hQ _ _ hR hA' (hv _ rfl) (fun _ _ _ => rfl)⟩
        ·
          refine ⟨fun (c6 : ((v1 : Int) = 3)) => ?_, fun (c6 : (¬ ((v1 : Int) = 3))) => ?_⟩
          ·
            refine ⟨_, hp2.1.1, (by have := hp2.2; show _ < 254; omega), ?_⟩
            exact ⟨rfl, fun hv hA' => hQ _ _ hR hA' (hv _ rfl) (fun _ _ _ => rfl)⟩
          ·
            refine ⟨fun (c7 : ((v1 : Int) = 4)) => ?_, fun (c7 : (¬ ((v1 : Int) = 4))) => ?_⟩
            ·
              refine ⟨_, hp2.1.1, (by have := hp2.2; show _ < 254; omega), ?_⟩
              refine fun w0 hw0 => ?_; obtain rfl : w0 = some ((1 + 19 + 5 * Int.toNat v0) + 2) := hw0.symm.trans hp2.1.2.2.2.2.1
              refine ⟨_, hp2.r.1.1, (by have := hp2.r.2; show _ < 254; omega), ?_⟩
              exact ⟨rfl, fun hv hA' => hQ _ _ hR hA' (hv _ rfl) (fun _ _ _ => rfl)⟩
            ·
              refine ⟨fun (c8 : ((v1 : Int) = 5)) => ?_, fun (c8 : (¬ ((v1 : Int) = 5))) => ?_⟩
              ·
                refine ⟨_, hp2.1.1, (by have := hp2.2; show _ < 254; omega), ?_⟩
                refine fun w0 hw0 => ?_; obtain rfl : w0 = some ((1 + 19 + 5 * Int.toNat v0) + 2) := hw0.symm.trans hp2.1.2.2.2.2.1
                refine ⟨⟨_, hp2.r.1.1, (by have := hp2.r.2; show _ < 254; omega)⟩, ?_⟩
                refine c_goodOnes  hF hR hp2.r (fun vr9 hr10 => ?_)
                have hr10 : -2147483648 ≤ vr9 ∧ vr9 < 2147483648 := hr10
                exact ⟨rfl, fun hv hA' => hQ _ _ hR hA' (hv _ rfl) (fun _ _ _ => rfl)⟩
              ·
                refine ⟨⟨_, rfl, (by decide)⟩, ?_⟩
                refine s_X11_refuse hF (e := 1) (by decide) ?_
                exact ⟨rfl, fun hv hA' => hQ _ _ (Rg.u hR (Pr_f rfl)) hA' (hv _ rfl) (fun ka ja hk => (uI_o (show ¬ (ka = 203 ∧ ja = 1) from by first | (intro e; obtain ⟨rfl, rfl⟩ := e; exact hk (by decide)) | omega)))⟩
  ·
    refine ⟨⟨_, rfl, (by decide)⟩, ?_⟩
    refine s_X11_refuse hF (e := 1) (by decide) ?_
    exact ⟨rfl, fun hv hA' => hQ _ _ (Rg.u hR (Pr_f rfl)) hA' (hv _ rfl) (fun ka ja hk => (uI_o (show ¬ (ka = 203 ∧ ja = 1) from by first | (intro e; obtain ⟨rfl, rfl⟩ := e; exact hk (by decide)) | omega)))⟩
theorem c_as (hF : FS F) (hR : Rg I) {v0 v1 : Int}  (hQ : ∀ (r : Int) (I' : pI), Rg I' → AR I' → iR r → (∀ k j, ¬ (k = 203) → I' k j = I k j) → Q (some (vi r)) F I') : CallN G (d + 2) kX11_as [vr 0, vi v0, vi v1] NP F I Q := by
  refine CallN_in (fun hok hA => CallN_out ?_)
  have iv0 : -2147483648 ≤ v0 ∧ v0 < 2147483648 := hok (vi v0) (by simp)
  have iv1 : -2147483648 ≤ v1 ∧ v1 < 2147483648 := hok (vi v1) (by simp)
  refine Call_wp (lv := [some (vr 0), some (vi v0), some (vi v1), none]) (by decide) ckX11_as [] rfl rfl ?_
  refine ⟨_, rfl, (by decide), ?_⟩
  refine fun w0 hw0 => ?_; obtain rfl : w0 = some 1 := hw0.symm.trans (FS.g hF rfl)
  refine ⟨⟨_, rfl, (by decide)⟩, ?_⟩
  refine s_X8_pieceAt hF (S := 1) (Or.inl rfl) (fun (w1 : (0 ≤ v0 ∧ v0 < (I 1 1) ∧ v0 < 14)) => ?_) (fun (w1 : ¬ (0 ≤ v0 ∧ v0 < (I 1 1) ∧ v0 < 14)) => ?_)
  ·
    have hp2 : PP F (1 + 19 + 5 * Int.toNat v0) := PP_of hF (by omega)
    refine s_X11_within (fun (w3 : ((0 : Int) ≤ v1 ∧ (v1 : Int) ≤ 5)) => ?_) (fun (w3 : ¬ ((0 : Int) ≤ v1 ∧ (v1 : Int) ≤ 5)) => ?_)
    ·
      refine ⟨fun _ => ?_, fun c => absurd c (show (¬ (1 : Int) = 0) from by decide)⟩
      refine ⟨⟨_, hp2.1.1, (by have := hp2.2; show _ < 254; omega)⟩, ?_⟩
      refine c_isOf (v0 := v1) hF hR hp2 (fun vr4 hr5 q6 => ?_)
      have hr5 : -2147483648 ≤ vr4 ∧ vr4 < 2147483648 := hr5
      have q6 : 0 ≤ vr4 ∧ vr4 ≤ 1 := q6
      refine ⟨fun (c7 : ((vr4 : Int) = 0)) => ?_, fun (c7 : (¬ ((vr4 : Int) = 0))) => ?_⟩
      ·
        refine ⟨⟨_, rfl, (by decide)⟩, ?_⟩
        refine s_X11_refuse hF (e := 5) (by decide) ?_
        exact ⟨rfl, fun hv hA' => hQ _ _ (Rg.u hR (Pr_f rfl)) hA' (hv _ rfl) (fun ka ja hk => (uI_o (show ¬ (ka = 203 ∧ ja = 5) from by first | (intro e; obtain ⟨rfl, rfl⟩ := e; exact hk (by decide)) | omega)))⟩
      ·
        refine ⟨_, hp2.1.1, (by have := hp2.2; show _ < 254; omega), ?_⟩
        exact ⟨rfl, fun hv hA' => hQ _ _ hR hA' (hv _ rfl) (fun _ _ _ => rfl)⟩
    ·
      refine ⟨fun c => absurd (show ((0 : Int) = 0) from by decide) c, fun _ => ?_⟩
      refine ⟨⟨_, rfl, (by decide)⟩, ?_⟩
      refine s_X11_refuse hF (e := 1) (by decide) ?_
      exact ⟨rfl, fun hv hA' => hQ _ _ (Rg.u hR (Pr_f rfl)) hA' (hv _ rfl) (fun ka ja hk => (uI_o (show ¬ (ka = 203 ∧ ja = 1) from by first | (intro e; obtain ⟨rfl, rfl⟩ := e; exact hk (by decide)) | omega)))⟩
  ·
    refine ⟨⟨_, rfl, (by decide)⟩, ?_⟩
    refine s_X11_refuse hF (e := 1) (by decide) ?_
    exact ⟨rfl, fun hv hA' => hQ _ _ (Rg.u hR (Pr_f rfl)) hA' (hv _ rfl) (fun ka ja hk => (uI_o (show ¬ (ka = 203 ∧ ja = 1) from by first | (intro e; obtain ⟨rfl, rfl⟩ := e; exact hk (by decide)) | omega)))⟩
theorem c_answer (hF : FS F) (hR : Rg I) {v0 v1 : Int}  (hQ : ∀ (r : Int) (I' : pI), Rg I' → AR I' → iR r → (∀ k j, ¬ (k = 203) → I' k j = I k j) → Q (some (vi r)) F I') : CallN G (d + 3) kX11_answer [vr 0, vi v0, vi v1] NP F I Q := by
  refine CallN_in (fun hok hA => CallN_out ?_)
  have iv0 : -2147483648 ≤ v0 ∧ v0 < 2147483648 := hok (vi v0) (by simp)
  have iv1 : -2147483648 ≤ v1 ∧ v1 < 2147483648 := hok (vi v1) (by simp)
  refine Call_wp (lv := [some (vr 0), some (vi v0), some (vi v1), none]) (by decide) ckX11_answer [] rfl rfl ?_
  refine ⟨_, rfl, (by decide), ?_⟩
  refine fun w0 hw0 => ?_; obtain rfl : w0 = some 1 := hw0.symm.trans (FS.g hF rfl)
  refine ⟨⟨_, rfl, (by decide)⟩, ?_⟩
  refine s_X8_pieceAt hF (S := 1) (Or.inl rfl) (fun (w1 : (0 ≤ v0 ∧ v0 < (I 1 1) ∧ v0 < 14)) => ?_) (fun (w1 : ¬ (0 ≤ v0 ∧ v0 < (I 1 1) ∧ v0 < 14)) => ?_)
  ·
    have hp2 : PP F (1 + 19 + 5 * Int.toNat v0) := PP_of hF (by omega)
    refine s_X11_isStretch (fun (w3 : ((0 : Int) ≤ v1 ∧ (v1 : Int) ≤ 999)) => ?_) (fun (w3 : ¬ ((0 : Int) ≤ v1 ∧ (v1 : Int) ≤ 999)) => ?_)
    ·
      refine ⟨fun _ => ?_, fun c => absurd c (show (¬ (1 : Int) = 0) from by decide)⟩
      refine ⟨⟨_, hp2.1.1, (by have := hp2.2; show _ < 254; omega)⟩, ?_⟩
      refine c_pload (v0 := v1) hF hR hp2 (fun vr4 hr5 => ?_)
      have hr5 : -2147483648 ≤ vr4 ∧ vr4 < 2147483648 := hr5
      exact ⟨rfl, fun hv hA' => hQ _ _ hR hA' (hv _ rfl) (fun _ _ _ => rfl)⟩
    ·
      refine ⟨fun c => absurd (show ((0 : Int) = 0) from by decide) c, fun _ => ?_⟩
      refine ⟨⟨_, rfl, (by decide)⟩, ?_⟩
      refine s_X11_refuse hF (e := 1) (by decide) ?_
      exact ⟨rfl, fun hv hA' => hQ _ _ (Rg.u hR (Pr_f rfl)) hA' (hv _ rfl) (fun ka ja hk => (uI_o (show ¬ (ka = 203 ∧ ja = 1) from by first | (intro e; obtain ⟨rfl, rfl⟩ := e; exact hk (by decide)) | omega)))⟩
  ·
    refine ⟨⟨_, rfl, (by decide)⟩, ?_⟩
    refine s_X11_refuse hF (e := 1) (by decide) ?_
    exact ⟨rfl, fun hv hA' => hQ _ _ (Rg.u hR (Pr_f rfl)) hA' (hv _ rfl) (fun ka ja hk => (uI_o (show ¬ (ka = 203 ∧ ja = 1) from by first | (intro e; obtain ⟨rfl, rfl⟩ := e; exact hk (by decide)) | omega)))⟩
theorem c_reading (hF : FS F) (hR : Rg I) {v0 v1 v2 : Int}  (hQ : ∀ (r : Int) (I' : pI), Rg I' → AR I' → iR r → (∀ k j, ¬ (k = 203) → I' k j = I k j) → Q (some (vi r)) F I') : CallN G (d + 2) kX11_reading [vr 0, vi v0, vi v1, vi v2] NP F I Q := by
  refine CallN_in (fun hok hA => CallN_out ?_)
  have iv0 : -2147483648 ≤ v0 ∧ v0 < 2147483648 := hok (vi v0) (by simp)
  have iv1 : -2147483648 ≤ v1 ∧ v1 < 2147483648 := hok (vi v1) (by simp)
  have iv2 : -2147483648 ≤ v2 ∧ v2 < 2147483648 := hok (vi v2) (by simp)
  refine Call_wp (lv := [some (vr 0), some (vi v0), some (vi v1), some (vi v2), none]) (by decide) ckX11_reading [] rfl rfl ?_
  refine ⟨_, rfl, (by decide), ?_⟩
  refine fun w0 hw0 => ?_; obtain rfl : w0 = some 1 := hw0.symm.trans (FS.g hF rfl)
  refine ⟨⟨_, rfl, (by decide)⟩, ?_⟩
  refine s_X8_pieceAt hF (S := 1) (Or.inl rfl) (fun (w1 : (0 ≤ v0 ∧ v0 < (I 1 1) ∧ v0 < 14)) => ?_) (fun (w1 : ¬ (0 ≤ v0 ∧ v0 < (I 1 1) ∧ v0 < 14)) => ?_)
  ·
    have hp2 : PP F (1 + 19 + 5 * Int.toNat v0) := PP_of hF (by omega)
    refine ⟨_, hp2.1.1, (by have := hp2.2; show _ < 254; omega), ?_⟩
    refine fun w0 hw0 => ?_; obtain rfl : w0 = some ((1 + 19 + 5 * Int.toNat v0) + 2) := hw0.symm.trans hp2.1.2.2.2.2.1
    refine ⟨_, hp2.r.1.1, (by have := hp2.r.2; show _ < 254; omega), ?_⟩
    have a3 : -2147483648 ≤ (I ((1 + 19 + 5 * Int.toNat v0) + 2) 2) ∧ (I ((1 + 19 + 5 * Int.toNat v0) + 2) 2) < 2147483648 := hA.1 _ _
    have n4 : -2147483648 ≤ (wr ((I ((1 + 19 + 5 * Int.toNat v0) + 2) 2) - 1)) ∧ (wr ((I ((1 + 19 + 5 * Int.toNat v0) + 2) 2) - 1)) < 2147483648 := wr_R _
    refine s_X11_within (fun (w5 : ((0 : Int) ≤ v1 ∧ (v1 : Int) ≤ (wr ((I ((1 + 19 + 5 * Int.toNat v0) + 2) 2) - 1)))) => ?_) (fun (w5 : ¬ ((0 : Int) ≤ v1 ∧ (v1 : Int) ≤ (wr ((I ((1 + 19 + 5 * Int.toNat v0) + 2) 2) - 1)))) => ?_)
    ·
      refine ⟨fun c => absurd c (show (¬ ((1 : Int) = 0)) from by decide), fun _ => ?_⟩
      refine s_X11_within (fun (w6 : ((0 : Int) ≤ v2 ∧ (v2 : Int) ≤ 1)) => ?_) (fun (w6 : ¬ ((0 : Int) ≤ v2 ∧ (v2 : Int) ≤ 1)) => ?_)
      ·
        refine ⟨fun _ => ?_, fun c => absurd c (show (¬ (1 : Int) = 0) from by decide)⟩
        refine ⟨fun (c7 : (¬ (v2 : Int) = 0)) => ?_, fun (c7 : ((v2 : Int) = 0)) => ?_⟩
        ·
          refine ⟨_, hp2.1.1, (by have := hp2.2; show _ < 254; omega), ?_⟩
          refine fun w0 hw0 => ?_; obtain rfl : w0 = some ((1 + 19 + 5 * Int.toNat v0) + 2) := hw0.symm.trans hp2.1.2.2.2.2.1
          refine ⟨⟨_, hp2.r.1.1, (by have := hp2.r.2; show _ < 254; omega)⟩, ?_⟩
          refine c_loadAt (v0 := v1) hF hR hp2.r (fun vr8 hr9 => ?_)
          have hr9 : -2147483648 ≤ vr8 ∧ vr8 < 2147483648 := hr9
          exact ⟨rfl, fun hv hA' => hQ _ _ hR hA' (hv _ rfl) (fun _ _ _ => rfl)⟩
        ·
          refine ⟨_, hp2.1.1, (by have := hp2.2; show _ < 254; omega), ?_⟩
          refine fun w0 hw0 => ?_; obtain rfl : w0 = some ((1 + 19 + 5 * Int.toNat v0) + 2) := hw0.symm.trans hp2.1.2.2.2.2.1
          refine ⟨⟨_, hp2.r.1.1, (by have := hp2.r.2; show _ < 254; omega)⟩, ?_⟩
          refine c_stretchAt (v0 := v1) hF hR hp2.r (fun vr10 hr11 => ?_)
          have hr11 : -2147483648 ≤ vr10 ∧ vr10 < 2147483648 := hr11
          exact ⟨rfl, fun hv hA' => hQ _ _ hR hA' (hv _ rfl) (fun _ _ _ => rfl)⟩
      ·
        refine ⟨fun c => absurd (show ((0 : Int) = 0) from by decide) c, fun _ => ?_⟩
        refine ⟨⟨_, rfl, (by decide)⟩, ?_⟩
        refine s_X11_refuse hF (e := 1) (by decide) ?_
        exact ⟨rfl, fun hv hA' => hQ _ _ (Rg.u hR (Pr_f rfl)) hA' (hv _ rfl) (fun ka ja hk => (uI_o (show ¬ (ka = 203 ∧ ja = 1) from by first | (intro e; obtain ⟨rfl, rfl⟩ := e; exact hk (by decide)) | omega)))⟩
    ·
      refine ⟨fun _ => ?_, fun c => absurd (show ((0 : Int) = 0) from by decide) c⟩
      refine ⟨⟨_, rfl, (by decide)⟩, ?_⟩
      refine s_X11_refuse hF (e := 1) (by decide) ?_
      exact ⟨rfl, fun hv hA' => hQ _ _ (Rg.u hR (Pr_f rfl)) hA' (hv _ rfl) (fun ka ja hk => (uI_o (show ¬ (ka = 203 ∧ ja = 1) from by first | (intro e; obtain ⟨rfl, rfl⟩ := e; exact hk (by decide)) | omega)))⟩
  ·
    refine ⟨⟨_, rfl, (by decide)⟩, ?_⟩
    refine s_X11_refuse hF (e := 1) (by decide) ?_
    exact ⟨rfl, fun hv hA' => hQ _ _ (Rg.u hR (Pr_f rfl)) hA' (hv _ rfl) (fun ka ja hk => (uI_o (show ¬ (ka = 203 ∧ ja = 1) from by first | (intro e; obtain ⟨rfl, rfl⟩ := e; exact hk (by decide)) | omega)))⟩
theorem c_ran (hF : FS F) (hR : Rg I) {v0 : Int}  (hQ : ∀ (r : Int) (I' : pI), Rg I' → AR I' → iR r → (∀ k j, ¬ (k = 203) → I' k j = I k j) → Q (some (vi r)) F I') : CallN G (d + 2) kX11_ran [vr 0, vi v0] NP F I Q := by
  refine CallN_in (fun hok hA => CallN_out ?_)
  have iv0 : -2147483648 ≤ v0 ∧ v0 < 2147483648 := hok (vi v0) (by simp)
  refine Call_wp (lv := [some (vr 0), some (vi v0)]) (by decide) ckX11_ran [] rfl rfl ?_
  refine s_X11_within (fun (w1 : ((0 : Int) ≤ v0 ∧ (v0 : Int) ≤ 3)) => ?_) (fun (w1 : ¬ ((0 : Int) ≤ v0 ∧ (v0 : Int) ≤ 3)) => ?_)
  ·
    refine ⟨fun _ => ?_, fun c => absurd c (show (¬ (1 : Int) = 0) from by decide)⟩
    refine ⟨_, rfl, (by decide), ?_⟩
    refine fun w0 hw0 => ?_; obtain rfl : w0 = some 1 := hw0.symm.trans (FS.g hF rfl)
    refine ⟨_, rfl, (by decide), ?_⟩
    have r2 : 0 ≤ (I 1 7) ∧ (I 1 7) ≤ 1 := hR.b (c := 8) (m := 12) rfl (by decide) ⟨by decide, by decide⟩
    refine ⟨fun (c4 : (((I 1 7) : Int) = 0)) => ?_, fun (c4 : (¬ (((I 1 7) : Int) = 0))) => ?_⟩
    ·
      refine ⟨⟨_, rfl, (by decide)⟩, ?_⟩
      refine s_X11_refuse hF (e := 2) (by decide) ?_
      exact ⟨rfl, fun hv hA' => hQ _ _ (Rg.u hR (Pr_f rfl)) hA' (hv _ rfl) (fun ka ja hk => (uI_o (show ¬ (ka = 203 ∧ ja = 2) from by first | (intro e; obtain ⟨rfl, rfl⟩ := e; exact hk (by decide)) | omega)))⟩
    ·
      refine ⟨_, rfl, (by decide), ?_⟩
      refine fun w0 hw0 => ?_; obtain rfl : w0 = some 1 := hw0.symm.trans (FS.g hF rfl)
      refine ⟨⟨_, rfl, (by decide)⟩, ?_⟩
      refine Call_wp (lv := [some (vr 1), some (vi v0)]) (by decide) ckX8_ranAt [] rfl rfl ?_
      refine ⟨fun c => absurd c (show (¬ ((v0 : Int) < 0)) from by first | omega | (simp only [wr, wl] at *; omega)), fun _ => ?_⟩
      refine ⟨fun c => absurd c (show (¬ ((4 : Int) ≤ v0)) from by first | omega | (simp only [wr, wl] at *; omega)), fun _ => ?_⟩
      refine ⟨_, rfl, (by decide), ?_⟩
      refine fun w0 hw0 => ?_; obtain rfl : w0 = some 6 := hw0.symm.trans (FS.g hF rfl)
      refine ⟨_, rfl, (by decide), (show (0 : Int) ≤ v0 from by first | with_reducible assumption | omega | (simp only [wr, wl] at *; omega)), (show v0 < (4 : Int) from by first | with_reducible assumption | omega | (simp only [wr, wl] at *; omega)), ?_⟩
      refine ⟨rfl, ?_⟩
      exact ⟨rfl, fun hv hA' => hQ _ _ hR hA' (hv _ rfl) (fun _ _ _ => rfl)⟩
  ·
    refine ⟨fun c => absurd (show ((0 : Int) = 0) from by decide) c, fun _ => ?_⟩
    refine ⟨⟨_, rfl, (by decide)⟩, ?_⟩
    refine s_X11_refuse hF (e := 1) (by decide) ?_
    exact ⟨rfl, fun hv hA' => hQ _ _ (Rg.u hR (Pr_f rfl)) hA' (hv _ rfl) (fun ka ja hk => (uI_o (show ¬ (ka = 203 ∧ ja = 1) from by first | (intro e; obtain ⟨rfl, rfl⟩ := e; exact hk (by decide)) | omega)))⟩
theorem c_line (hF : FS F) (hR : Rg I) {v0 v1 : Int}  (hQ : ∀ (r : Int) (I' : pI), Rg I' → AR I' → iR r → (∀ k j, ¬ (k = 203 ∨ (20 ≤ k ∧ k < 90 ∧ k % 5 = 2 ∧ 3 ≤ j)) → I' k j = I k j) → Q (some (vi r)) F I') : CallN G (d + 4) kX11_line [vr 0, vi v0, vi v1] NP F I Q := by
  refine CallN_in (fun hok hA => CallN_out ?_)
  have iv0 : -2147483648 ≤ v0 ∧ v0 < 2147483648 := hok (vi v0) (by simp)
  have iv1 : -2147483648 ≤ v1 ∧ v1 < 2147483648 := hok (vi v1) (by simp)
  refine Call_wp (lv := [some (vr 0), some (vi v0), some (vi v1), none, none]) (by decide) ckX11_line [] rfl rfl ?_
  refine ⟨_, rfl, (by decide), ?_⟩
  refine fun w0 hw0 => ?_; obtain rfl : w0 = some 1 := hw0.symm.trans (FS.g hF rfl)
  refine ⟨⟨_, rfl, (by decide)⟩, ?_⟩
  refine s_X8_pieceAt hF (S := 1) (Or.inl rfl) (fun (w1 : (0 ≤ v0 ∧ v0 < (I 1 1) ∧ v0 < 14)) => ?_) (fun (w1 : ¬ (0 ≤ v0 ∧ v0 < (I 1 1) ∧ v0 < 14)) => ?_)
  ·
    have hp2 : PP F (1 + 19 + 5 * Int.toNat v0) := PP_of hF (by omega)
    refine s_X11_within (fun (w3 : ((0 : Int) ≤ v1 ∧ (v1 : Int) ≤ 2)) => ?_) (fun (w3 : ¬ ((0 : Int) ≤ v1 ∧ (v1 : Int) ≤ 2)) => ?_)
    ·
      refine ⟨fun _ => ?_, fun c => absurd c (show (¬ (1 : Int) = 0) from by decide)⟩
      refine ⟨_, hp2.1.1, (by have := hp2.2; show _ < 254; omega), ?_⟩
      refine fun w0 hw0 => ?_; obtain rfl : w0 = some ((1 + 19 + 5 * Int.toNat v0) + 2) := hw0.symm.trans hp2.1.2.2.2.2.1
      refine ⟨⟨_, hp2.r.1.1, (by have := hp2.r.2; show _ < 254; omega)⟩, ?_⟩
      refine c_findLine  hF hR hp2.r (fun vr4 I5 hR6 hA7 hr9 hW8 q10 => ?_)
      have hr9 : -2147483648 ≤ vr4 ∧ vr4 < 2147483648 := hr9
      have q10 : 0 ≤ vr4 ∧ vr4 ≤ 1 := q10
      refine ⟨fun (c11 : (¬ (vr4 : Int) = 0)) => ?_, fun (c11 : ((vr4 : Int) = 0)) => ?_⟩
      ·
        refine ⟨fun (c12 : (¬ (v1 : Int) = 2)) => ?_, fun (c12 : ((v1 : Int) = 2)) => ?_⟩
        ·
          refine ⟨fun (c13 : (¬ (v1 : Int) = 0)) => ?_, fun (c13 : ((v1 : Int) = 0)) => ?_⟩
          ·
            refine ⟨_, hp2.r.1.1, (by have := hp2.r.2; show _ < 254; omega), ?_⟩
            exact ⟨rfl, fun hv hA' => hQ _ _ hR6 hA' (hv _ rfl) (fun ka ja hk => (hW8 ka ja (by omega)))⟩
          ·
            refine ⟨_, hp2.r.1.1, (by have := hp2.r.2; show _ < 254; omega), ?_⟩
            exact ⟨rfl, fun hv hA' => hQ _ _ hR6 hA' (hv _ rfl) (fun ka ja hk => (hW8 ka ja (by omega)))⟩
        ·
          refine ⟨_, hp2.r.1.1, (by have := hp2.r.2; show _ < 254; omega), ?_⟩
          exact ⟨rfl, fun hv hA' => hQ _ _ hR6 hA' (hv _ rfl) (fun ka ja hk => (hW8 ka ja (by omega)))⟩
      ·
        refine ⟨⟨_, rfl, (by decide)⟩, ?_⟩
        refine s_X11_refuse hF (e := 2) (by decide) ?_
        have u14 : (I5 203 2) = (I 203 2) := hW8 _ _ (by first | decide | omega)
        have a15 : -2147483648 ≤ (I 203 2) ∧ (I 203 2) < 2147483648 := hA.1 _ _
        have a16 : -2147483648 ≤ (I5 203 2) ∧ (I5 203 2) < 2147483648 := hA7.1 _ _
        exact ⟨rfl, fun hv hA' => hQ _ _ (Rg.u hR6 (Pr_f rfl)) hA' (hv _ rfl) (fun ka ja hk => ((uI_o (show ¬ (ka = 203 ∧ ja = 2) from by first | (intro e; obtain ⟨rfl, rfl⟩ := e; exact hk (by decide)) | omega))).trans ((hW8 ka ja (by omega))))⟩
    ·
      refine ⟨fun c => absurd (show ((0 : Int) = 0) from by decide) c, fun _ => ?_⟩
      refine ⟨⟨_, rfl, (by decide)⟩, ?_⟩
      refine s_X11_refuse hF (e := 1) (by decide) ?_
      exact ⟨rfl, fun hv hA' => hQ _ _ (Rg.u hR (Pr_f rfl)) hA' (hv _ rfl) (fun ka ja hk => (uI_o (show ¬ (ka = 203 ∧ ja = 1) from by first | (intro e; obtain ⟨rfl, rfl⟩ := e; exact hk (by decide)) | omega)))⟩
  ·
    refine ⟨⟨_, rfl, (by decide)⟩, ?_⟩
    refine s_X11_refuse hF (e := 1) (by decide) ?_
    exact ⟨rfl, fun hv hA' => hQ _ _ (Rg.u hR (Pr_f rfl)) hA' (hv _ rfl) (fun ka ja hk => (uI_o (show ¬ (ka = 203 ∧ ja = 1) from by first | (intro e; obtain ⟨rfl, rfl⟩ := e; exact hk (by decide)) | omega)))⟩
theorem c_yields (hF : FS F) (hR : Rg I) {v0 v1 : Int}  (hQ : ∀ (r : Int) (I' : pI), Rg I' → AR I' → iR r → (∀ k j, ¬ (k = 203 ∨ (20 ≤ k ∧ k < 90 ∧ k % 5 = 2 ∧ 3 ≤ j)) → I' k j = I k j) → Q (some (vi r)) F I') : CallN G (d + 5) kX11_yields [vr 0, vi v0, vi v1] NP F I Q := by
  refine CallN_in (fun hok hA => CallN_out ?_)
  have iv0 : -2147483648 ≤ v0 ∧ v0 < 2147483648 := hok (vi v0) (by simp)
  have iv1 : -2147483648 ≤ v1 ∧ v1 < 2147483648 := hok (vi v1) (by simp)
  refine Call_wp (lv := [some (vr 0), some (vi v0), some (vi v1), none]) (by decide) ckX11_yields [] rfl rfl ?_
  refine ⟨_, rfl, (by decide), ?_⟩
  refine fun w0 hw0 => ?_; obtain rfl : w0 = some 1 := hw0.symm.trans (FS.g hF rfl)
  refine ⟨⟨_, rfl, (by decide)⟩, ?_⟩
  refine s_X8_pieceAt hF (S := 1) (Or.inl rfl) (fun (w1 : (0 ≤ v0 ∧ v0 < (I 1 1) ∧ v0 < 14)) => ?_) (fun (w1 : ¬ (0 ≤ v0 ∧ v0 < (I 1 1) ∧ v0 < 14)) => ?_)
  ·
    have hp2 : PP F (1 + 19 + 5 * Int.toNat v0) := PP_of hF (by omega)
    refine s_X11_within (fun (w3 : ((0 : Int) ≤ v1 ∧ (v1 : Int) ≤ 999)) => ?_) (fun (w3 : ¬ ((0 : Int) ≤ v1 ∧ (v1 : Int) ≤ 999)) => ?_)
    ·
      refine ⟨fun _ => ?_, fun c => absurd c (show (¬ (1 : Int) = 0) from by decide)⟩
      refine ⟨_, hp2.1.1, (by have := hp2.2; show _ < 254; omega), ?_⟩
      refine fun w0 hw0 => ?_; obtain rfl : w0 = some ((1 + 19 + 5 * Int.toNat v0) + 2) := hw0.symm.trans hp2.1.2.2.2.2.1
      refine ⟨⟨_, hp2.r.1.1, (by have := hp2.r.2; show _ < 254; omega)⟩, ?_⟩
      refine c_yieldAt (v0 := v1) hF hR hp2.r (fun vr4 I5 hR6 hA7 hr9 hW8 => ?_)
      have hr9 : -2147483648 ≤ vr4 ∧ vr4 < 2147483648 := hr9
      refine ⟨⟨_, rfl, (by decide)⟩, ?_⟩
      refine Call_wp (lv := [some (vr 0), some (vi vr4)]) (by decide) ckX11_orNone [] rfl rfl ?_
      refine ⟨fun (c10 : ((0 : Int) ≤ vr4)) => ?_, fun (c10 : (¬ ((0 : Int) ≤ vr4))) => ?_⟩
      ·
        refine ⟨rfl, ?_⟩
        exact ⟨rfl, fun hv hA' => hQ _ _ hR6 hA' (hv _ rfl) (fun ka ja hk => (hW8 ka ja (by omega)))⟩
      ·
        refine ⟨⟨_, rfl, (by decide)⟩, ?_⟩
        refine s_X11_refuse hF (e := 2) (by decide) ?_
        have u11 : (I5 203 2) = (I 203 2) := hW8 _ _ (by first | decide | omega)
        have a12 : -2147483648 ≤ (I 203 2) ∧ (I 203 2) < 2147483648 := hA.1 _ _
        have a13 : -2147483648 ≤ (I5 203 2) ∧ (I5 203 2) < 2147483648 := hA7.1 _ _
        refine ⟨rfl, ?_⟩
        exact ⟨rfl, fun hv hA' => hQ _ _ (Rg.u hR6 (Pr_f rfl)) hA' (hv _ rfl) (fun ka ja hk => ((uI_o (show ¬ (ka = 203 ∧ ja = 2) from by first | (intro e; obtain ⟨rfl, rfl⟩ := e; exact hk (by decide)) | omega))).trans ((hW8 ka ja (by omega))))⟩
    ·
      refine ⟨fun c => absurd (show ((0 : Int) = 0) from by decide) c, fun _ => ?_⟩
      refine ⟨⟨_, rfl, (by decide)⟩, ?_⟩
      refine s_X11_refuse hF (e := 1) (by decide) ?_
      exact ⟨rfl, fun hv hA' => hQ _ _ (Rg.u hR (Pr_f rfl)) hA' (hv _ rfl) (fun ka ja hk => (uI_o (show ¬ (ka = 203 ∧ ja = 1) from by first | (intro e; obtain ⟨rfl, rfl⟩ := e; exact hk (by decide)) | omega)))⟩
  ·
    refine ⟨⟨_, rfl, (by decide)⟩, ?_⟩
    refine s_X11_refuse hF (e := 1) (by decide) ?_
    exact ⟨rfl, fun hv hA' => hQ _ _ (Rg.u hR (Pr_f rfl)) hA' (hv _ rfl) (fun ka ja hk => (uI_o (show ¬ (ka = 203 ∧ ja = 1) from by first | (intro e; obtain ⟨rfl, rfl⟩ := e; exact hk (by decide)) | omega)))⟩
theorem c_top (hF : FS F) (hR : Rg I) {v0 : Int}  (hQ : ∀ (r : Int) (I' : pI), Rg I' → AR I' → iR r → (∀ k j, ¬ (k = 203 ∨ (20 ≤ k ∧ k < 90 ∧ k % 5 = 2 ∧ 3 ≤ j)) → I' k j = I k j) → Q (some (vi r)) F I') : CallN G (d + 6) kX11_top [vr 0, vi v0] NP F I Q := by
  refine CallN_in (fun hok hA => CallN_out ?_)
  have iv0 : -2147483648 ≤ v0 ∧ v0 < 2147483648 := hok (vi v0) (by simp)
  refine Call_wp (lv := [some (vr 0), some (vi v0), none]) (by decide) ckX11_top [] rfl rfl ?_
  refine ⟨_, rfl, (by decide), ?_⟩
  refine fun w0 hw0 => ?_; obtain rfl : w0 = some 1 := hw0.symm.trans (FS.g hF rfl)
  refine ⟨⟨_, rfl, (by decide)⟩, ?_⟩
  refine s_X8_pieceAt hF (S := 1) (Or.inl rfl) (fun (w1 : (0 ≤ v0 ∧ v0 < (I 1 1) ∧ v0 < 14)) => ?_) (fun (w1 : ¬ (0 ≤ v0 ∧ v0 < (I 1 1) ∧ v0 < 14)) => ?_)
  ·
    have hp2 : PP F (1 + 19 + 5 * Int.toNat v0) := PP_of hF (by omega)
    refine ⟨_, hp2.1.1, (by have := hp2.2; show _ < 254; omega), ?_⟩
    refine fun w0 hw0 => ?_; obtain rfl : w0 = some ((1 + 19 + 5 * Int.toNat v0) + 2) := hw0.symm.trans hp2.1.2.2.2.2.1
    refine ⟨⟨_, hp2.r.1.1, (by have := hp2.r.2; show _ < 254; omega)⟩, ?_⟩
    refine c_numberBy (v0 := 0) hF hR hp2.r (fun vr3 I4 hR5 hA6 hr8 hW7 => ?_)
    have hr8 : -2147483648 ≤ vr3 ∧ vr3 < 2147483648 := hr8
    refine ⟨⟨_, rfl, (by decide)⟩, ?_⟩
    refine Call_wp (lv := [some (vr 0), some (vi vr3)]) (by decide) ckX11_orNone [] rfl rfl ?_
    refine ⟨fun (c9 : ((0 : Int) ≤ vr3)) => ?_, fun (c9 : (¬ ((0 : Int) ≤ vr3))) => ?_⟩
    ·
      refine ⟨rfl, ?_⟩
      exact ⟨rfl, fun hv hA' => hQ _ _ hR5 hA' (hv _ rfl) (fun ka ja hk => (hW7 ka ja (by omega)))⟩
    ·
      refine ⟨⟨_, rfl, (by decide)⟩, ?_⟩
      refine s_X11_refuse hF (e := 2) (by decide) ?_
      have u10 : (I4 203 2) = (I 203 2) := hW7 _ _ (by first | decide | omega)
      have a11 : -2147483648 ≤ (I 203 2) ∧ (I 203 2) < 2147483648 := hA.1 _ _
      have a12 : -2147483648 ≤ (I4 203 2) ∧ (I4 203 2) < 2147483648 := hA6.1 _ _
      refine ⟨rfl, ?_⟩
      exact ⟨rfl, fun hv hA' => hQ _ _ (Rg.u hR5 (Pr_f rfl)) hA' (hv _ rfl) (fun ka ja hk => ((uI_o (show ¬ (ka = 203 ∧ ja = 2) from by first | (intro e; obtain ⟨rfl, rfl⟩ := e; exact hk (by decide)) | omega))).trans ((hW7 ka ja (by omega))))⟩
  ·
    refine ⟨⟨_, rfl, (by decide)⟩, ?_⟩
    refine s_X11_refuse hF (e := 1) (by decide) ?_
    exact ⟨rfl, fun hv hA' => hQ _ _ (Rg.u hR (Pr_f rfl)) hA' (hv _ rfl) (fun ka ja hk => (uI_o (show ¬ (ka = 203 ∧ ja = 1) from by first | (intro e; obtain ⟨rfl, rfl⟩ := e; exact hk (by decide)) | omega)))⟩
theorem c_breaks (hF : FS F) (hR : Rg I) {v0 v1 : Int}  (hQ : ∀ (r : Int) (I' : pI), Rg I' → AR I' → iR r → (∀ k j, ¬ (k = 203 ∨ (20 ≤ k ∧ k < 90 ∧ k % 5 = 2 ∧ 3 ≤ j)) → I' k j = I k j) → Q (some (vi r)) F I') : CallN G (d + 4) kX11_breaks [vr 0, vi v0, vi v1] NP F I Q := by
  refine CallN_in (fun hok hA => CallN_out ?_)
  have iv0 : -2147483648 ≤ v0 ∧ v0 < 2147483648 := hok (vi v0) (by simp)
  have iv1 : -2147483648 ≤ v1 ∧ v1 < 2147483648 := hok (vi v1) (by simp)
  refine Call_wp (lv := [some (vr 0), some (vi v0), some (vi v1), none]) (by decide) ckX11_breaks [] rfl rfl ?_
  refine ⟨_, rfl, (by decide), ?_⟩
  refine fun w0 hw0 => ?_; obtain rfl : w0 = some 1 := hw0.symm.trans (FS.g hF rfl)
  refine ⟨⟨_, rfl, (by decide)⟩, ?_⟩
  refine s_X8_pieceAt hF (S := 1) (Or.inl rfl) (fun (w1 : (0 ≤ v0 ∧ v0 < (I 1 1) ∧ v0 < 14)) => ?_) (fun (w1 : ¬ (0 ≤ v0 ∧ v0 < (I 1 1) ∧ v0 < 14)) => ?_)
  ·
    have hp2 : PP F (1 + 19 + 5 * Int.toNat v0) := PP_of hF (by omega)
    refine s_X11_within (fun (w3 : ((0 : Int) ≤ v1 ∧ (v1 : Int) ≤ 100)) => ?_) (fun (w3 : ¬ ((0 : Int) ≤ v1 ∧ (v1 : Int) ≤ 100)) => ?_)
    ·
      refine ⟨fun _ => ?_, fun c => absurd c (show (¬ (1 : Int) = 0) from by decide)⟩
      refine ⟨_, hp2.1.1, (by have := hp2.2; show _ < 254; omega), ?_⟩
      refine fun w0 hw0 => ?_; obtain rfl : w0 = some ((1 + 19 + 5 * Int.toNat v0) + 2) := hw0.symm.trans hp2.1.2.2.2.2.1
      refine ⟨⟨_, hp2.r.1.1, (by have := hp2.r.2; show _ < 254; omega)⟩, ?_⟩
      refine c_breakAt (v0 := v1) hF hR hp2.r (fun vr4 hr5 => ?_)
      have hr5 : -2147483648 ≤ vr4 ∧ vr4 < 2147483648 := hr5
      refine ⟨⟨_, rfl, (by decide)⟩, ?_⟩
      refine Call_wp (lv := [some (vr 0), some (vi vr4)]) (by decide) ckX11_orNone [] rfl rfl ?_
      refine ⟨fun (c6 : ((0 : Int) ≤ vr4)) => ?_, fun (c6 : (¬ ((0 : Int) ≤ vr4))) => ?_⟩
      ·
        refine ⟨rfl, ?_⟩
        exact ⟨rfl, fun hv hA' => hQ _ _ hR hA' (hv _ rfl) (fun _ _ _ => rfl)⟩
      ·
        refine ⟨⟨_, rfl, (by decide)⟩, ?_⟩
        refine s_X11_refuse hF (e := 2) (by decide) ?_
        refine ⟨rfl, ?_⟩
        exact ⟨rfl, fun hv hA' => hQ _ _ (Rg.u hR (Pr_f rfl)) hA' (hv _ rfl) (fun ka ja hk => (uI_o (show ¬ (ka = 203 ∧ ja = 2) from by first | (intro e; obtain ⟨rfl, rfl⟩ := e; exact hk (by decide)) | omega)))⟩
    ·
      refine ⟨fun c => absurd (show ((0 : Int) = 0) from by decide) c, fun _ => ?_⟩
      refine ⟨⟨_, rfl, (by decide)⟩, ?_⟩
      refine s_X11_refuse hF (e := 1) (by decide) ?_
      exact ⟨rfl, fun hv hA' => hQ _ _ (Rg.u hR (Pr_f rfl)) hA' (hv _ rfl) (fun ka ja hk => (uI_o (show ¬ (ka = 203 ∧ ja = 1) from by first | (intro e; obtain ⟨rfl, rfl⟩ := e; exact hk (by decide)) | omega)))⟩
  ·
    refine ⟨⟨_, rfl, (by decide)⟩, ?_⟩
    refine s_X11_refuse hF (e := 1) (by decide) ?_
    exact ⟨rfl, fun hv hA' => hQ _ _ (Rg.u hR (Pr_f rfl)) hA' (hv _ rfl) (fun ka ja hk => (uI_o (show ¬ (ka = 203 ∧ ja = 1) from by first | (intro e; obtain ⟨rfl, rfl⟩ := e; exact hk (by decide)) | omega)))⟩
theorem c_spent (hF : FS F) (hR : Rg I) {v0 v1 : Int}  (hQ : ∀ (r : Int) (I' : pI), Rg I' → AR I' → lR r → (∀ k j, ¬ (k = 203) → I' k j = I k j) → Q (some (vl r)) F I') : CallN G (d + 3) kX11_spent [vr 0, vi v0, vi v1] NP F I Q := by
  refine CallN_in (fun hok hA => CallN_out ?_)
  have iv0 : -2147483648 ≤ v0 ∧ v0 < 2147483648 := hok (vi v0) (by simp)
  have iv1 : -2147483648 ≤ v1 ∧ v1 < 2147483648 := hok (vi v1) (by simp)
  refine Call_wp (lv := [some (vr 0), some (vi v0), some (vi v1), none]) (by decide) ckX11_spent [] rfl rfl ?_
  refine ⟨_, rfl, (by decide), ?_⟩
  refine fun w0 hw0 => ?_; obtain rfl : w0 = some 1 := hw0.symm.trans (FS.g hF rfl)
  refine ⟨⟨_, rfl, (by decide)⟩, ?_⟩
  refine s_X8_pieceAt hF (S := 1) (Or.inl rfl) (fun (w1 : (0 ≤ v0 ∧ v0 < (I 1 1) ∧ v0 < 14)) => ?_) (fun (w1 : ¬ (0 ≤ v0 ∧ v0 < (I 1 1) ∧ v0 < 14)) => ?_)
  ·
    have hp2 : PP F (1 + 19 + 5 * Int.toNat v0) := PP_of hF (by omega)
    refine ⟨_, hp2.1.1, (by have := hp2.2; show _ < 254; omega), ?_⟩
    refine fun w0 hw0 => ?_; obtain rfl : w0 = some ((1 + 19 + 5 * Int.toNat v0) + 2) := hw0.symm.trans hp2.1.2.2.2.2.1
    refine ⟨_, hp2.r.1.1, (by have := hp2.r.2; show _ < 254; omega), ?_⟩
    have a3 : -2147483648 ≤ (I ((1 + 19 + 5 * Int.toNat v0) + 2) 2) ∧ (I ((1 + 19 + 5 * Int.toNat v0) + 2) 2) < 2147483648 := hA.1 _ _
    have n4 : -2147483648 ≤ (wr ((I ((1 + 19 + 5 * Int.toNat v0) + 2) 2) - 1)) ∧ (wr ((I ((1 + 19 + 5 * Int.toNat v0) + 2) 2) - 1)) < 2147483648 := wr_R _
    refine s_X11_within (fun (w5 : ((0 : Int) ≤ v1 ∧ (v1 : Int) ≤ (wr ((I ((1 + 19 + 5 * Int.toNat v0) + 2) 2) - 1)))) => ?_) (fun (w5 : ¬ ((0 : Int) ≤ v1 ∧ (v1 : Int) ≤ (wr ((I ((1 + 19 + 5 * Int.toNat v0) + 2) 2) - 1)))) => ?_)
    ·
      refine ⟨fun _ => ?_, fun c => absurd c (show (¬ (1 : Int) = 0) from by decide)⟩
      refine ⟨_, hp2.1.1, (by have := hp2.2; show _ < 254; omega), ?_⟩
      refine fun w0 hw0 => ?_; obtain rfl : w0 = some ((1 + 19 + 5 * Int.toNat v0) + 2) := hw0.symm.trans hp2.1.2.2.2.2.1
      refine ⟨⟨_, hp2.r.1.1, (by have := hp2.r.2; show _ < 254; omega)⟩, ?_⟩
      refine c_spentUpTo (v0 := v1) hF hR hp2.r (fun vr6 hr7 => ?_)
      have hr7 : -9223372036854775808 ≤ vr6 ∧ vr6 < 9223372036854775808 := hr7
      exact ⟨rfl, fun hv hA' => hQ _ _ hR hA' (hv _ rfl) (fun _ _ _ => rfl)⟩
    ·
      refine ⟨fun c => absurd (show ((0 : Int) = 0) from by decide) c, fun _ => ?_⟩
      refine ⟨⟨_, rfl, (by decide)⟩, ?_⟩
      refine s_X11_refuse hF (e := 1) (by decide) ?_
      exact ⟨rfl, fun hv hA' => hQ _ _ (Rg.u hR (Pr_f rfl)) hA' (hv _ rfl) (fun ka ja hk => (uI_o (show ¬ (ka = 203 ∧ ja = 1) from by first | (intro e; obtain ⟨rfl, rfl⟩ := e; exact hk (by decide)) | omega)))⟩
  ·
    refine ⟨⟨_, rfl, (by decide)⟩, ?_⟩
    refine s_X11_refuse hF (e := 1) (by decide) ?_
    exact ⟨rfl, fun hv hA' => hQ _ _ (Rg.u hR (Pr_f rfl)) hA' (hv _ rfl) (fun ka ja hk => (uI_o (show ¬ (ka = 203 ∧ ja = 1) from by first | (intro e; obtain ⟨rfl, rfl⟩ := e; exact hk (by decide)) | omega)))⟩
theorem c_number (hF : FS F) (hR : Rg I) {v0 v1 : Int}  (hQ : ∀ (r : Int) (I' : pI), Rg I' → AR I' → iR r → (∀ k j, ¬ (k = 203 ∨ (20 ≤ k ∧ k < 90 ∧ k % 5 = 2 ∧ 3 ≤ j)) → I' k j = I k j) → Q (some (vi r)) F I') : CallN G (d + 6) kX11_number [vr 0, vi v0, vi v1] NP F I Q := by
  refine CallN_in (fun hok hA => CallN_out ?_)
  have iv0 : -2147483648 ≤ v0 ∧ v0 < 2147483648 := hok (vi v0) (by simp)
  have iv1 : -2147483648 ≤ v1 ∧ v1 < 2147483648 := hok (vi v1) (by simp)
  refine Call_wp (lv := [some (vr 0), some (vi v0), some (vi v1), none]) (by decide) ckX11_number [] rfl rfl ?_
  refine ⟨_, rfl, (by decide), ?_⟩
  refine fun w0 hw0 => ?_; obtain rfl : w0 = some 1 := hw0.symm.trans (FS.g hF rfl)
  refine ⟨⟨_, rfl, (by decide)⟩, ?_⟩
  refine s_X8_pieceAt hF (S := 1) (Or.inl rfl) (fun (w1 : (0 ≤ v0 ∧ v0 < (I 1 1) ∧ v0 < 14)) => ?_) (fun (w1 : ¬ (0 ≤ v0 ∧ v0 < (I 1 1) ∧ v0 < 14)) => ?_)
  ·
    have hp2 : PP F (1 + 19 + 5 * Int.toNat v0) := PP_of hF (by omega)
    refine s_X11_isLaw (fun (w3 : ((0 : Int) ≤ v1 ∧ (v1 : Int) ≤ 3)) => ?_) (fun (w3 : ¬ ((0 : Int) ≤ v1 ∧ (v1 : Int) ≤ 3)) => ?_)
    ·
      refine ⟨fun _ => ?_, fun c => absurd c (show (¬ (1 : Int) = 0) from by decide)⟩
      refine ⟨_, hp2.1.1, (by have := hp2.2; show _ < 254; omega), ?_⟩
      refine fun w0 hw0 => ?_; obtain rfl : w0 = some ((1 + 19 + 5 * Int.toNat v0) + 2) := hw0.symm.trans hp2.1.2.2.2.2.1
      refine ⟨⟨_, hp2.r.1.1, (by have := hp2.r.2; show _ < 254; omega)⟩, ?_⟩
      refine c_numberBy (v0 := v1) hF hR hp2.r (fun vr4 I5 hR6 hA7 hr9 hW8 => ?_)
      have hr9 : -2147483648 ≤ vr4 ∧ vr4 < 2147483648 := hr9
      refine ⟨⟨_, rfl, (by decide)⟩, ?_⟩
      refine Call_wp (lv := [some (vr 0), some (vi vr4)]) (by decide) ckX11_orNone [] rfl rfl ?_
      refine ⟨fun (c10 : ((0 : Int) ≤ vr4)) => ?_, fun (c10 : (¬ ((0 : Int) ≤ vr4))) => ?_⟩
      ·
        refine ⟨rfl, ?_⟩
        exact ⟨rfl, fun hv hA' => hQ _ _ hR6 hA' (hv _ rfl) (fun ka ja hk => (hW8 ka ja (by omega)))⟩
      ·
        refine ⟨⟨_, rfl, (by decide)⟩, ?_⟩
        refine s_X11_refuse hF (e := 2) (by decide) ?_
        have u11 : (I5 203 2) = (I 203 2) := hW8 _ _ (by first | decide | omega)
        have a12 : -2147483648 ≤ (I 203 2) ∧ (I 203 2) < 2147483648 := hA.1 _ _
        have a13 : -2147483648 ≤ (I5 203 2) ∧ (I5 203 2) < 2147483648 := hA7.1 _ _
        refine ⟨rfl, ?_⟩
        exact ⟨rfl, fun hv hA' => hQ _ _ (Rg.u hR6 (Pr_f rfl)) hA' (hv _ rfl) (fun ka ja hk => ((uI_o (show ¬ (ka = 203 ∧ ja = 2) from by first | (intro e; obtain ⟨rfl, rfl⟩ := e; exact hk (by decide)) | omega))).trans ((hW8 ka ja (by omega))))⟩
    ·
      refine ⟨fun c => absurd (show ((0 : Int) = 0) from by decide) c, fun _ => ?_⟩
      refine ⟨⟨_, rfl, (by decide)⟩, ?_⟩
      refine s_X11_refuse hF (e := 1) (by decide) ?_
      exact ⟨rfl, fun hv hA' => hQ _ _ (Rg.u hR (Pr_f rfl)) hA' (hv _ rfl) (fun ka ja hk => (uI_o (show ¬ (ka = 203 ∧ ja = 1) from by first | (intro e; obtain ⟨rfl, rfl⟩ := e; exact hk (by decide)) | omega)))⟩
  ·
    refine ⟨⟨_, rfl, (by decide)⟩, ?_⟩
    refine s_X11_refuse hF (e := 1) (by decide) ?_
    exact ⟨rfl, fun hv hA' => hQ _ _ (Rg.u hR (Pr_f rfl)) hA' (hv _ rfl) (fun ka ja hk => (uI_o (show ¬ (ka = 203 ∧ ja = 1) from by first | (intro e; obtain ⟨rfl, rfl⟩ := e; exact hk (by decide)) | omega)))⟩
theorem c_curve (hF : FS F) (hR : Rg I) {v0 v1 v2 : Int}  (hQ : ∀ (r : Int) (I' : pI), Rg I' → AR I' → iR r → (∀ k j, ¬ (k = 203 ∨ (223 ≤ k ∧ k < 226)) → I' k j = I k j) → Q (some (vi r)) F I') : CallN G (d + 4) kX11_curve [vr 0, vi v0, vi v1, vi v2] NP F I Q := by
  refine CallN_in (fun hok hA => CallN_out ?_)
  have iv0 : -2147483648 ≤ v0 ∧ v0 < 2147483648 := hok (vi v0) (by simp)
  have iv1 : -2147483648 ≤ v1 ∧ v1 < 2147483648 := hok (vi v1) (by simp)
  have iv2 : -2147483648 ≤ v2 ∧ v2 < 2147483648 := hok (vi v2) (by simp)
  refine Call_wp (lv := [some (vr 0), some (vi v0), some (vi v1), some (vi v2), none]) (by decide) ckX11_curve [] rfl rfl ?_
  refine s_X11_isLot (fun (w1 : ((0 : Int) ≤ v0 ∧ (v0 : Int) ≤ 3)) => ?_) (fun (w1 : ¬ ((0 : Int) ≤ v0 ∧ (v0 : Int) ≤ 3)) => ?_)
  ·
    refine ⟨fun c => absurd c (show (¬ ((1 : Int) = 0)) from by decide), fun _ => ?_⟩
    refine s_X11_isStretch (fun (w2 : ((0 : Int) ≤ v1 ∧ (v1 : Int) ≤ 999)) => ?_) (fun (w2 : ¬ ((0 : Int) ≤ v1 ∧ (v1 : Int) ≤ 999)) => ?_)
    ·
      refine ⟨fun c => absurd c (show (¬ ((1 : Int) = 0)) from by decide), fun _ => ?_⟩
      refine s_X11_within (fun (w3 : ((0 : Int) ≤ v2 ∧ (v2 : Int) ≤ 3)) => ?_) (fun (w3 : ¬ ((0 : Int) ≤ v2 ∧ (v2 : Int) ≤ 3)) => ?_)
      ·
        refine ⟨fun _ => ?_, fun c => absurd c (show (¬ (1 : Int) = 0) from by decide)⟩
        refine ⟨⟨_, rfl, (by decide)⟩, ?_⟩
        refine c_orderCurves  hF hR (fun I4 hR5 hA6 hW7 => ?_)
        refine ⟨fun (c8 : (¬ (v2 : Int) = 3)) => ?_, fun (c8 : ((v2 : Int) = 3)) => ?_⟩
        ·
          refine ⟨_, rfl, (by decide), ?_⟩
          refine fun w0 hw0 => ?_; obtain rfl : w0 = some 223 := hw0.symm.trans (FS.g hF rfl)
          refine ⟨_, rfl, (by decide), ?_⟩
          have a9 : -2147483648 ≤ (I4 223 2) ∧ (I4 223 2) < 2147483648 := hA6.1 _ _
          refine ⟨fun (c10 : (¬ ((I4 223 2) : Int) = 0)) => ?_, fun (c10 : (((I4 223 2) : Int) = 0)) => ?_⟩
          ·
            refine ⟨_, rfl, (by decide), ?_⟩
            refine fun w0 hw0 => ?_; obtain rfl : w0 = some 223 := hw0.symm.trans (FS.g hF rfl)
            refine ⟨_, rfl, (by decide), ?_⟩
            refine ⟨_, rfl, (by decide), ?_⟩
            refine fun w0 hw0 => ?_; obtain rfl : w0 = some 223 := hw0.symm.trans (FS.g hF rfl)
            refine ⟨(by decide), ?_⟩
            refine ⟨⟨_, rfl, (by decide)⟩, ?_⟩
            have n11 : -2147483648 ≤ (wr ((I4 223 2) - 1)) ∧ (wr ((I4 223 2) - 1)) < 2147483648 := wr_R _
            have n12 : -2147483648 ≤ (wr (v2 * (wr ((I4 223 2) - 1)))) ∧ (wr (v2 * (wr ((I4 223 2) - 1)))) < 2147483648 := wr_R _
            have n13 : -1073741824 ≤ (Int.tdiv (wr (v2 * (wr ((I4 223 2) - 1)))) 2) ∧ (Int.tdiv (wr (v2 * (wr ((I4 223 2) - 1)))) 2) ≤ 1073741824 := td_b (by decide) (by decide) (by omega) (by omega)
            have n14 : (wr (Int.tdiv (wr (v2 * (wr ((I4 223 2) - 1)))) 2)) = (Int.tdiv (wr (v2 * (wr ((I4 223 2) - 1)))) 2) := wr_id (show -2147483648 ≤ ((Int.tdiv (wr (v2 * (wr ((I4 223 2) - 1)))) 2) : Int) ∧ ((Int.tdiv (wr (v2 * (wr ((I4 223 2) - 1)))) 2) : Int) < 2147483648 from by omega)
            refine c_valueAt  hF hR5 (fun vr15 hr16 => ?_)
            have hr16 : -2147483648 ≤ vr15 ∧ vr15 < 2147483648 := hr16
            exact ⟨rfl, fun hv hA' => hQ _ _ hR5 hA' (hv _ rfl) (fun ka ja hk => (hW7 ka ja (by omega)))⟩
          ·
            refine ⟨⟨_, rfl, (by decide)⟩, ?_⟩
            refine s_X11_refuse hF (e := 2) (by decide) ?_
            have u17 : (I4 203 2) = (I 203 2) := hW7 _ _ (by first | decide | omega)
            have a18 : -2147483648 ≤ (I 203 2) ∧ (I 203 2) < 2147483648 := hA.1 _ _
            have a19 : -2147483648 ≤ (I4 203 2) ∧ (I4 203 2) < 2147483648 := hA6.1 _ _
            exact ⟨rfl, fun hv hA' => hQ _ _ (Rg.u hR5 (Pr_f rfl)) hA' (hv _ rfl) (fun ka ja hk => ((uI_o (show ¬ (ka = 203 ∧ ja = 2) from by first | (intro e; obtain ⟨rfl, rfl⟩ := e; exact hk (by decide)) | omega))).trans ((hW7 ka ja (by omega))))⟩
        ·
          refine ⟨_, rfl, (by decide), ?_⟩
          refine fun w0 hw0 => ?_; obtain rfl : w0 = some 223 := hw0.symm.trans (FS.g hF rfl)
          refine ⟨_, rfl, (by decide), ?_⟩
          exact ⟨rfl, fun hv hA' => hQ _ _ hR5 hA' (hv _ rfl) (fun ka ja hk => (hW7 ka ja (by omega)))⟩
      ·
        refine ⟨fun c => absurd (show ((0 : Int) = 0) from by decide) c, fun _ => ?_⟩
        refine ⟨⟨_, rfl, (by decide)⟩, ?_⟩
        refine s_X11_refuse hF (e := 1) (by decide) ?_
        exact ⟨rfl, fun hv hA' => hQ _ _ (Rg.u hR (Pr_f rfl)) hA' (hv _ rfl) (fun ka ja hk => (uI_o (show ¬ (ka = 203 ∧ ja = 1) from by first | (intro e; obtain ⟨rfl, rfl⟩ := e; exact hk (by decide)) | omega)))⟩
    ·
      refine ⟨fun _ => ?_, fun c => absurd (show ((0 : Int) = 0) from by decide) c⟩
      refine ⟨⟨_, rfl, (by decide)⟩, ?_⟩
      refine s_X11_refuse hF (e := 1) (by decide) ?_
      exact ⟨rfl, fun hv hA' => hQ _ _ (Rg.u hR (Pr_f rfl)) hA' (hv _ rfl) (fun ka ja hk => (uI_o (show ¬ (ka = 203 ∧ ja = 1) from by first | (intro e; obtain ⟨rfl, rfl⟩ := e; exact hk (by decide)) | omega)))⟩
  ·
    refine ⟨fun _ => ?_, fun c => absurd (show ((0 : Int) = 0) from by decide) c⟩
    refine ⟨⟨_, rfl, (by decide)⟩, ?_⟩
    refine s_X11_refuse hF (e := 1) (by decide) ?_
    exact ⟨rfl, fun hv hA' => hQ _ _ (Rg.u hR (Pr_f rfl)) hA' (hv _ rfl) (fun ka ja hk => (uI_o (show ¬ (ka = 203 ∧ ja = 1) from by first | (intro e; obtain ⟨rfl, rfl⟩ := e; exact hk (by decide)) | omega)))⟩
theorem c_odd (hF : FS F) (hR : Rg I) {v0 v1 v2 : Int}  (hQ : ∀ (r : Int) (I' : pI), Rg I' → AR I' → iR r → (∀ k j, ¬ (k = 203 ∨ (223 ≤ k ∧ k < 226) ∨ (20 ≤ k ∧ k < 90 ∧ k % 5 = 2 ∧ 3 ≤ j)) → I' k j = I k j) → Q (some (vi r)) F I') : CallN G (d + 7) kX11_odd [vr 0, vi v0, vi v1, vi v2] NP F I Q := by
  refine CallN_in (fun hok hA => CallN_out ?_)
  have iv0 : -2147483648 ≤ v0 ∧ v0 < 2147483648 := hok (vi v0) (by simp)
  have iv1 : -2147483648 ≤ v1 ∧ v1 < 2147483648 := hok (vi v1) (by simp)
  have iv2 : -2147483648 ≤ v2 ∧ v2 < 2147483648 := hok (vi v2) (by simp)
  refine Call_wp (lv := [some (vr 0), some (vi v0), some (vi v1), some (vi v2)]) (by decide) ckX11_odd [] rfl rfl ?_
  refine s_X11_isLot (fun (w1 : ((0 : Int) ≤ v0 ∧ (v0 : Int) ≤ 3)) => ?_) (fun (w1 : ¬ ((0 : Int) ≤ v0 ∧ (v0 : Int) ≤ 3)) => ?_)
  ·
    refine ⟨fun c => absurd c (show (¬ ((1 : Int) = 0)) from by decide), fun _ => ?_⟩
    refine s_X11_isLaw (fun (w2 : ((0 : Int) ≤ v1 ∧ (v1 : Int) ≤ 3)) => ?_) (fun (w2 : ¬ ((0 : Int) ≤ v1 ∧ (v1 : Int) ≤ 3)) => ?_)
    ·
      refine ⟨fun c => absurd c (show (¬ ((1 : Int) = 0)) from by decide), fun _ => ?_⟩
      refine s_X11_within (fun (w3 : ((0 : Int) ≤ v2 ∧ (v2 : Int) ≤ 100)) => ?_) (fun (w3 : ¬ ((0 : Int) ≤ v2 ∧ (v2 : Int) ≤ 100)) => ?_)
      ·
        refine ⟨fun _ => ?_, fun c => absurd c (show (¬ (1 : Int) = 0) from by decide)⟩
        refine ⟨⟨_, rfl, (by decide)⟩, ?_⟩
        refine c_orderNumbers  hF hR (fun I4 hR5 hA6 hW7 => ?_)
        refine ⟨_, rfl, (by decide), ?_⟩
        refine fun w0 hw0 => ?_; obtain rfl : w0 = some 223 := hw0.symm.trans (FS.g hF rfl)
        refine ⟨⟨_, rfl, (by decide)⟩, ?_⟩
        refine c_oddPiece  hF hR5 (fun vr8 hr9 => ?_)
        have hr9 : -2147483648 ≤ vr8 ∧ vr8 < 2147483648 := hr9
        refine ⟨⟨_, rfl, (by decide)⟩, ?_⟩
        refine Call_wp (lv := [some (vr 0), some (vi vr8)]) (by decide) ckX11_orNone [] rfl rfl ?_
        refine ⟨fun (c10 : ((0 : Int) ≤ vr8)) => ?_, fun (c10 : (¬ ((0 : Int) ≤ vr8))) => ?_⟩
        ·
          refine ⟨rfl, ?_⟩
          exact ⟨rfl, fun hv hA' => hQ _ _ hR5 hA' (hv _ rfl) (fun ka ja hk => (hW7 ka ja (by omega)))⟩
        ·
          refine ⟨⟨_, rfl, (by decide)⟩, ?_⟩
          refine s_X11_refuse hF (e := 2) (by decide) ?_
          have u11 : (I4 203 2) = (I 203 2) := hW7 _ _ (by first | decide | omega)
          have a12 : -2147483648 ≤ (I 203 2) ∧ (I 203 2) < 2147483648 := hA.1 _ _
          have a13 : -2147483648 ≤ (I4 203 2) ∧ (I4 203 2) < 2147483648 := hA6.1 _ _
          refine ⟨rfl, ?_⟩
          exact ⟨rfl, fun hv hA' => hQ _ _ (Rg.u hR5 (Pr_f rfl)) hA' (hv _ rfl) (fun ka ja hk => ((uI_o (show ¬ (ka = 203 ∧ ja = 2) from by first | (intro e; obtain ⟨rfl, rfl⟩ := e; exact hk (by decide)) | omega))).trans ((hW7 ka ja (by omega))))⟩
      ·
        refine ⟨fun c => absurd (show ((0 : Int) = 0) from by decide) c, fun _ => ?_⟩
        refine ⟨⟨_, rfl, (by decide)⟩, ?_⟩
        refine s_X11_refuse hF (e := 1) (by decide) ?_
        exact ⟨rfl, fun hv hA' => hQ _ _ (Rg.u hR (Pr_f rfl)) hA' (hv _ rfl) (fun ka ja hk => (uI_o (show ¬ (ka = 203 ∧ ja = 1) from by first | (intro e; obtain ⟨rfl, rfl⟩ := e; exact hk (by decide)) | omega)))⟩
    ·
      refine ⟨fun _ => ?_, fun c => absurd (show ((0 : Int) = 0) from by decide) c⟩
      refine ⟨⟨_, rfl, (by decide)⟩, ?_⟩
      refine s_X11_refuse hF (e := 1) (by decide) ?_
      exact ⟨rfl, fun hv hA' => hQ _ _ (Rg.u hR (Pr_f rfl)) hA' (hv _ rfl) (fun ka ja hk => (uI_o (show ¬ (ka = 203 ∧ ja = 1) from by first | (intro e; obtain ⟨rfl, rfl⟩ := e; exact hk (by decide)) | omega)))⟩
  ·
    refine ⟨fun _ => ?_, fun c => absurd (show ((0 : Int) = 0) from by decide) c⟩
    refine ⟨⟨_, rfl, (by decide)⟩, ?_⟩
    refine s_X11_refuse hF (e := 1) (by decide) ?_
    exact ⟨rfl, fun hv hA' => hQ _ _ (Rg.u hR (Pr_f rfl)) hA' (hv _ rfl) (fun ka ja hk => (uI_o (show ¬ (ka = 203 ∧ ja = 1) from by first | (intro e; obtain ⟨rfl, rfl⟩ := e; exact hk (by decide)) | omega)))⟩
theorem c_sure (hF : FS F) (hR : Rg I) {v0 v1 v2 v3 : Int}  (hQ : ∀ (r : Int) (I' : pI), Rg I' → AR I' → iR r → (∀ k j, ¬ (k = 203 ∨ (223 ≤ k ∧ k < 226) ∨ (20 ≤ k ∧ k < 90 ∧ k % 5 = 2 ∧ 3 ≤ j)) → I' k j = I k j) → Q (some (vi r)) F I') : CallN G (d + 7) kX11_sure [vr 0, vi v0, vi v1, vi v2, vi v3] NP F I Q := by
  refine CallN_in (fun hok hA => CallN_out ?_)
  have iv0 : -2147483648 ≤ v0 ∧ v0 < 2147483648 := hok (vi v0) (by simp)
  have iv1 : -2147483648 ≤ v1 ∧ v1 < 2147483648 := hok (vi v1) (by simp)
  have iv2 : -2147483648 ≤ v2 ∧ v2 < 2147483648 := hok (vi v2) (by simp)
  have iv3 : -2147483648 ≤ v3 ∧ v3 < 2147483648 := hok (vi v3) (by simp)
  refine Call_wp (lv := [some (vr 0), some (vi v0), some (vi v1), some (vi v2), some (vi v3), none]) (by decide) ckX11_sure [] rfl rfl ?_
  refine s_X11_isLot (fun (w1 : ((0 : Int) ≤ v0 ∧ (v0 : Int) ≤ 3)) => ?_) (fun (w1 : ¬ ((0 : Int) ≤ v0 ∧ (v0 : Int) ≤ 3)) => ?_)
  ·
    refine ⟨fun c => absurd c (show (¬ ((1 : Int) = 0)) from by decide), fun _ => ?_⟩
    refine s_X11_isLaw (fun (w2 : ((0 : Int) ≤ v1 ∧ (v1 : Int) ≤ 3)) => ?_) (fun (w2 : ¬ ((0 : Int) ≤ v1 ∧ (v1 : Int) ≤ 3)) => ?_)
    ·
      refine ⟨fun c => absurd c (show (¬ ((1 : Int) = 0)) from by decide), fun _ => ?_⟩
      refine s_X11_isTenths (fun (w3 : ((1 : Int) ≤ v2 ∧ (v2 : Int) ≤ 9)) => ?_) (fun (w3 : ¬ ((1 : Int) ≤ v2 ∧ (v2 : Int) ≤ 9)) => ?_)
      ·
        refine ⟨fun c => absurd c (show (¬ ((1 : Int) = 0)) from by decide), fun _ => ?_⟩
        refine s_X11_isTenths (fun (w4 : ((1 : Int) ≤ v3 ∧ (v3 : Int) ≤ 9)) => ?_) (fun (w4 : ¬ ((1 : Int) ≤ v3 ∧ (v3 : Int) ≤ 9)) => ?_)
        ·
          refine ⟨fun _ => ?_, fun c => absurd c (show (¬ (1 : Int) = 0) from by decide)⟩
          refine ⟨⟨_, rfl, (by decide)⟩, ?_⟩
          refine c_orderNumbers  hF hR (fun I5 hR6 hA7 hW8 => ?_)
          refine ⟨_, rfl, (by decide), ?_⟩
          refine fun w0 hw0 => ?_; obtain rfl : w0 = some 223 := hw0.symm.trans (FS.g hF rfl)
          refine ⟨_, rfl, (by decide), ?_⟩
          have a9 : -2147483648 ≤ (I5 223 2) ∧ (I5 223 2) < 2147483648 := hA7.1 _ _
          refine c_place  hF hR6 (fun vr10 hr11 => ?_)
          have hr11 : -2147483648 ≤ vr10 ∧ vr10 < 2147483648 := hr11
          refine ⟨fun (c12 : ((1 : Int) ≤ vr10)) => ?_, fun (c12 : (¬ ((1 : Int) ≤ vr10))) => ?_⟩
          ·
            refine ⟨_, rfl, (by decide), ?_⟩
            refine fun w0 hw0 => ?_; obtain rfl : w0 = some 223 := hw0.symm.trans (FS.g hF rfl)
            refine ⟨⟨_, rfl, (by decide)⟩, ?_⟩
            have n13 : (wr (vr10 - 1)) = vr10 - 1 := wr_id (show -2147483648 ≤ (vr10 - 1 : Int) ∧ (vr10 - 1 : Int) < 2147483648 from by omega)
            refine c_valueAt  hF hR6 (fun vr14 hr15 => ?_)
            have hr15 : -2147483648 ≤ vr14 ∧ vr14 < 2147483648 := hr15
            exact ⟨rfl, fun hv hA' => hQ _ _ hR6 hA' (hv _ rfl) (fun ka ja hk => (hW8 ka ja (by omega)))⟩
          ·
            refine ⟨⟨_, rfl, (by decide)⟩, ?_⟩
            refine s_X11_refuse hF (e := 2) (by decide) ?_
            have u16 : (I5 203 2) = (I 203 2) := hW8 _ _ (by first | decide | omega)
            have a17 : -2147483648 ≤ (I 203 2) ∧ (I 203 2) < 2147483648 := hA.1 _ _
            have a18 : -2147483648 ≤ (I5 203 2) ∧ (I5 203 2) < 2147483648 := hA7.1 _ _
            exact ⟨rfl, fun hv hA' => hQ _ _ (Rg.u hR6 (Pr_f rfl)) hA' (hv _ rfl) (fun ka ja hk => ((uI_o (show ¬ (ka = 203 ∧ ja = 2) from by first | (intro e; obtain ⟨rfl, rfl⟩ := e; exact hk (by decide)) | omega))).trans ((hW8 ka ja (by omega))))⟩
        ·
          refine ⟨fun c => absurd (show ((0 : Int) = 0) from by decide) c, fun _ => ?_⟩
          refine ⟨⟨_, rfl, (by decide)⟩, ?_⟩
          refine s_X11_refuse hF (e := 1) (by decide) ?_
          exact ⟨rfl, fun hv hA' => hQ _ _ (Rg.u hR (Pr_f rfl)) hA' (hv _ rfl) (fun ka ja hk => (uI_o (show ¬ (ka = 203 ∧ ja = 1) from by first | (intro e; obtain ⟨rfl, rfl⟩ := e; exact hk (by decide)) | omega)))⟩
      ·
        refine ⟨fun _ => ?_, fun c => absurd (show ((0 : Int) = 0) from by decide) c⟩
        refine ⟨⟨_, rfl, (by decide)⟩, ?_⟩
        refine s_X11_refuse hF (e := 1) (by decide) ?_
        exact ⟨rfl, fun hv hA' => hQ _ _ (Rg.u hR (Pr_f rfl)) hA' (hv _ rfl) (fun ka ja hk => (uI_o (show ¬ (ka = 203 ∧ ja = 1) from by first | (intro e; obtain ⟨rfl, rfl⟩ := e; exact hk (by decide)) | omega)))⟩
    ·
      refine ⟨fun _ => ?_, fun c => absurd (show ((0 : Int) = 0) from by decide) c⟩
      refine ⟨⟨_, rfl, (by decide)⟩, ?_⟩
      refine s_X11_refuse hF (e := 1) (by decide) ?_
      exact ⟨rfl, fun hv hA' => hQ _ _ (Rg.u hR (Pr_f rfl)) hA' (hv _ rfl) (fun ka ja hk => (uI_o (show ¬ (ka = 203 ∧ ja = 1) from by first | (intro e; obtain ⟨rfl, rfl⟩ := e; exact hk (by decide)) | omega)))⟩
  ·
    refine ⟨fun _ => ?_, fun c => absurd (show ((0 : Int) = 0) from by decide) c⟩
    refine ⟨⟨_, rfl, (by decide)⟩, ?_⟩
    refine s_X11_refuse hF (e := 1) (by decide) ?_
    exact ⟨rfl, fun hv hA' => hQ _ _ (Rg.u hR (Pr_f rfl)) hA' (hv _ rfl) (fun ka ja hk => (uI_o (show ¬ (ka = 203 ∧ ja = 1) from by first | (intro e; obtain ⟨rfl, rfl⟩ := e; exact hk (by decide)) | omega)))⟩
theorem c_few_l (hF : FS F) (hR : Rg I) {v0 v1 : Int}  (hQ : ∀ (r : Int) (I' : pI), Rg I' → (∀ k j, ¬ (k = 203) → I' k j = I k j) → Q (some (vi r)) F I') : ∀ (mz : Nat) (n : Int) (J : pI), Rg J → (∀ k j, ¬ (k = 203) → J k j = I k j) → ((1 : Int) ≤ n) → ((n : Int) ≤ 13) → (13 - n).toNat < mz → GoN G (d + 2) kX11_few NP NP 22 [some (vr 0), some (vi v0), some (vi v1), some (vi n)] [] F J Q := by
  intro mz
  induction mz with
  | zero => intro n J hJ hV _ _ h; exact absurd h (Nat.not_lt_zero _)
  | succ mz ih =>
    intro n J hJ hV c100 c101 hm
    refine GoN_in (fun hok hA => ?_)
    have iiv0 : -2147483648 ≤ v0 ∧ v0 < 2147483648 := hok 1 _ rfl
    have iiv1 : -2147483648 ≤ v1 ∧ v1 < 2147483648 := hok 2 _ rfl
    have iin : -2147483648 ≤ n ∧ n < 2147483648 := hok 3 _ rfl
    refine Go_wp (by decide) ckX11_few [22] ?_
    refine ⟨fun (c1 : ((12 : Int) < n)) => ?_, fun (c1 : (¬ ((12 : Int) < n))) => ?_⟩
    ·
      refine ⟨⟨_, rfl, (by decide)⟩, ?_⟩
      refine s_X11_refuse hF (e := 2) (by decide) ?_
      exact ⟨rfl, hQ _ _ (Rg.u hJ (Pr_f rfl)) (fun ka ja hk => ((uI_o (show ¬ (ka = 203 ∧ ja = 2) from by first | (intro e; obtain ⟨rfl, rfl⟩ := e; exact hk (by decide)) | omega))).trans ((hV ka ja (by omega))))⟩
    ·
      refine c_place  hF hJ (fun vr2 hr3 => ?_)
      have hr3 : -2147483648 ≤ vr2 ∧ vr2 < 2147483648 := hr3
      refine ⟨fun (c4 : ((vr2 : Int) ≤ 0)) => ?_, fun (c4 : (¬ ((vr2 : Int) ≤ 0))) => ?_⟩
      ·
        have n5 : (wr (n + 1)) = n + 1 := wr_id (show -2147483648 ≤ (n + 1 : Int) ∧ (n + 1 : Int) < 2147483648 from by omega)
        exact ih (wr (n + 1)) J hJ (fun ka ja hk => (hV ka ja (by omega))) (show (1 : Int) ≤ (wr (n + 1)) from by first | with_reducible assumption | omega | (simp only [wr, wl] at *; omega)) (show ((wr (n + 1)) : Int) ≤ 13 from by first | with_reducible assumption | omega | (simp only [wr, wl] at *; omega)) (show (13 - (wr (n + 1))).toNat < mz from by omega)
      ·
        exact ⟨rfl, hQ _ _ hJ (fun ka ja hk => (hV ka ja (by omega)))⟩
theorem c_few (hF : FS F) (hR : Rg I) {v0 v1 : Int}  (hQ : ∀ (r : Int) (I' : pI), Rg I' → AR I' → iR r → (∀ k j, ¬ (k = 203) → I' k j = I k j) → Q (some (vi r)) F I') : CallN G (d + 2) kX11_few [vr 0, vi v0, vi v1] NP F I Q := by
  refine CallN_in (fun hok hA => CallN_out ?_)
  have iv0 : -2147483648 ≤ v0 ∧ v0 < 2147483648 := hok (vi v0) (by simp)
  have iv1 : -2147483648 ≤ v1 ∧ v1 < 2147483648 := hok (vi v1) (by simp)
  refine Call_wp (lv := [some (vr 0), some (vi v0), some (vi v1), none]) (by decide) ckX11_few [22] rfl rfl ?_
  refine s_X11_isTenths (fun (w1 : ((1 : Int) ≤ v0 ∧ (v0 : Int) ≤ 9)) => ?_) (fun (w1 : ¬ ((1 : Int) ≤ v0 ∧ (v0 : Int) ≤ 9)) => ?_)
  ·
    refine ⟨fun c => absurd c (show (¬ ((1 : Int) = 0)) from by decide), fun _ => ?_⟩
    refine s_X11_isTenths (fun (w2 : ((1 : Int) ≤ v1 ∧ (v1 : Int) ≤ 9)) => ?_) (fun (w2 : ¬ ((1 : Int) ≤ v1 ∧ (v1 : Int) ≤ 9)) => ?_)
    ·
      refine ⟨fun _ => ?_, fun c => absurd c (show (¬ (1 : Int) = 0) from by decide)⟩
      refine c_few_l hF hR  (fun r I' g1 g2 hv hA' => hQ _ _ g1 hA' (hv _ rfl) g2) _ 1 I hR (fun _ _ _ => rfl) (show (1 : Int) ≤ (1 : Int) from Int.le_refl _) (show ((1 : Int) : Int) ≤ 13 from by first | with_reducible assumption | omega | (simp only [wr, wl] at *; omega)) (Nat.lt_succ_self _)
    ·
      refine ⟨fun c => absurd (show ((0 : Int) = 0) from by decide) c, fun _ => ?_⟩
      refine ⟨⟨_, rfl, (by decide)⟩, ?_⟩
      refine s_X11_refuse hF (e := 1) (by decide) ?_
      exact ⟨rfl, fun hv hA' => hQ _ _ (Rg.u hR (Pr_f rfl)) hA' (hv _ rfl) (fun ka ja hk => (uI_o (show ¬ (ka = 203 ∧ ja = 1) from by first | (intro e; obtain ⟨rfl, rfl⟩ := e; exact hk (by decide)) | omega)))⟩
  ·
    refine ⟨fun _ => ?_, fun c => absurd (show ((0 : Int) = 0) from by decide) c⟩
    refine ⟨⟨_, rfl, (by decide)⟩, ?_⟩
    refine s_X11_refuse hF (e := 1) (by decide) ?_
    exact ⟨rfl, fun hv hA' => hQ _ _ (Rg.u hR (Pr_f rfl)) hA' (hv _ rfl) (fun ka ja hk => (uI_o (show ¬ (ka = 203 ∧ ja = 1) from by first | (intro e; obtain ⟨rfl, rfl⟩ := e; exact hk (by decide)) | omega)))⟩
theorem c_led (hF : FS F) (hR : Rg I) {v0 v1 v2 : Int}  (hQ : ∀ (r : Int) (I' : pI), Rg I' → AR I' → iR r → (∀ k j, ¬ (k = 203) → I' k j = I k j) → Q (some (vi r)) F I') : CallN G (d + 5) kX11_led [vr 0, vi v0, vi v1, vi v2] NP F I Q := by
  refine CallN_in (fun hok hA => CallN_out ?_)
  have iv0 : -2147483648 ≤ v0 ∧ v0 < 2147483648 := hok (vi v0) (by simp)
  have iv1 : -2147483648 ≤ v1 ∧ v1 < 2147483648 := hok (vi v1) (by simp)
  have iv2 : -2147483648 ≤ v2 ∧ v2 < 2147483648 := hok (vi v2) (by simp)
  refine Call_wp (lv := [some (vr 0), some (vi v0), some (vi v1), some (vi v2)]) (by decide) ckX11_led [] rfl rfl ?_
  refine s_X11_isMeter (fun (w1 : ((0 : Int) ≤ v0 ∧ (v0 : Int) ≤ 5)) => ?_) (fun (w1 : ¬ ((0 : Int) ≤ v0 ∧ (v0 : Int) ≤ 5)) => ?_)
  ·
    refine ⟨fun c => absurd c (show (¬ ((1 : Int) = 0)) from by decide), fun _ => ?_⟩
    refine s_X11_within (fun (w2 : ((0 : Int) ≤ v1 ∧ (v1 : Int) ≤ 99999)) => ?_) (fun (w2 : ¬ ((0 : Int) ≤ v1 ∧ (v1 : Int) ≤ 99999)) => ?_)
    ·
      refine ⟨fun c => absurd c (show (¬ ((1 : Int) = 0)) from by decide), fun _ => ?_⟩
      refine s_X11_within (fun (w3 : ((0 : Int) ≤ v2 ∧ (v2 : Int) ≤ 1)) => ?_) (fun (w3 : ¬ ((0 : Int) ≤ v2 ∧ (v2 : Int) ≤ 1)) => ?_)
      ·
        refine ⟨fun _ => ?_, fun c => absurd c (show (¬ (1 : Int) = 0) from by decide)⟩
        refine ⟨fun (c4 : (¬ (v2 : Int) = 0)) => ?_, fun (c4 : ((v2 : Int) = 0)) => ?_⟩
        ·
          refine ⟨_, rfl, (by decide), ?_⟩
          refine fun w0 hw0 => ?_; obtain rfl : w0 = some 1 := hw0.symm.trans (FS.g hF rfl)
          refine ⟨_, rfl, (by decide), ?_⟩
          refine fun w0 hw0 => ?_; obtain rfl : w0 = some 7 := hw0.symm.trans (FS.g hF rfl)
          refine ⟨⟨_, rfl, (by decide)⟩, ?_⟩
          refine c_doubt  hF hR (fun vr5 hr6 => ?_)
          have hr6 : -2147483648 ≤ vr5 ∧ vr5 < 2147483648 := hr6
          exact ⟨rfl, fun hv hA' => hQ _ _ hR hA' (hv _ rfl) (fun _ _ _ => rfl)⟩
        ·
          refine ⟨_, rfl, (by decide), ?_⟩
          refine fun w0 hw0 => ?_; obtain rfl : w0 = some 1 := hw0.symm.trans (FS.g hF rfl)
          refine ⟨_, rfl, (by decide), ?_⟩
          refine fun w0 hw0 => ?_; obtain rfl : w0 = some 7 := hw0.symm.trans (FS.g hF rfl)
          refine ⟨⟨_, rfl, (by decide)⟩, ?_⟩
          refine c_ledTo  hF hR (fun vr7 hr8 => ?_)
          have hr8 : -2147483648 ≤ vr7 ∧ vr7 < 2147483648 := hr8
          exact ⟨rfl, fun hv hA' => hQ _ _ hR hA' (hv _ rfl) (fun _ _ _ => rfl)⟩
      ·
        refine ⟨fun c => absurd (show ((0 : Int) = 0) from by decide) c, fun _ => ?_⟩
        refine ⟨⟨_, rfl, (by decide)⟩, ?_⟩
        refine s_X11_refuse hF (e := 1) (by decide) ?_
        exact ⟨rfl, fun hv hA' => hQ _ _ (Rg.u hR (Pr_f rfl)) hA' (hv _ rfl) (fun ka ja hk => (uI_o (show ¬ (ka = 203 ∧ ja = 1) from by first | (intro e; obtain ⟨rfl, rfl⟩ := e; exact hk (by decide)) | omega)))⟩
    ·
      refine ⟨fun _ => ?_, fun c => absurd (show ((0 : Int) = 0) from by decide) c⟩
      refine ⟨⟨_, rfl, (by decide)⟩, ?_⟩
      refine s_X11_refuse hF (e := 1) (by decide) ?_
      exact ⟨rfl, fun hv hA' => hQ _ _ (Rg.u hR (Pr_f rfl)) hA' (hv _ rfl) (fun ka ja hk => (uI_o (show ¬ (ka = 203 ∧ ja = 1) from by first | (intro e; obtain ⟨rfl, rfl⟩ := e; exact hk (by decide)) | omega)))⟩
  ·
    refine ⟨fun _ => ?_, fun c => absurd (show ((0 : Int) = 0) from by decide) c⟩
    refine ⟨⟨_, rfl, (by decide)⟩, ?_⟩
    refine s_X11_refuse hF (e := 1) (by decide) ?_
    exact ⟨rfl, fun hv hA' => hQ _ _ (Rg.u hR (Pr_f rfl)) hA' (hv _ rfl) (fun ka ja hk => (uI_o (show ¬ (ka = 203 ∧ ja = 1) from by first | (intro e; obtain ⟨rfl, rfl⟩ := e; exact hk (by decide)) | omega)))⟩
theorem c_entryIs (hF : FS F) (hR : Rg I) {v0 v1 : Int}  (hQ : ∀ (r : Int) (I' : pI), Rg I' → AR I' → iR r → (∀ k j, ¬ (k = 203) → I' k j = I k j) → Q (some (vi r)) F I') : CallN G (d + 3) kX11_entryIs [vr 0, vi v0, vi v1] NP F I Q := by
  refine CallN_in (fun hok hA => CallN_out ?_)
  have iv0 : -2147483648 ≤ v0 ∧ v0 < 2147483648 := hok (vi v0) (by simp)
  have iv1 : -2147483648 ≤ v1 ∧ v1 < 2147483648 := hok (vi v1) (by simp)
  refine Call_wp (lv := [some (vr 0), some (vi v0), some (vi v1), none]) (by decide) ckX11_entryIs [] rfl rfl ?_
  refine ⟨_, rfl, (by decide), ?_⟩
  refine fun w0 hw0 => ?_; obtain rfl : w0 = some 1 := hw0.symm.trans (FS.g hF rfl)
  refine ⟨_, rfl, (by decide), ?_⟩
  refine fun w0 hw0 => ?_; obtain rfl : w0 = some 12 := hw0.symm.trans (FS.g hF rfl)
  refine ⟨⟨_, rfl, (by decide)⟩, ?_⟩
  refine Call_wp (lv := [some (vr 12), some (vi v0)]) (by decide) ckX0_has [] rfl rfl ?_
  refine ⟨fun (c1 : ((v0 : Int) < 0)) => ?_, fun (c1 : (¬ ((v0 : Int) < 0))) => ?_⟩
  ·
    refine ⟨rfl, (by decide), ?_⟩
    refine ⟨fun c => absurd (show ((0 : Int) = 0) from by decide) c, fun _ => ?_⟩
    refine ⟨⟨_, rfl, (by decide)⟩, ?_⟩
    refine s_X11_refuse hF (e := 1) (by decide) ?_
    exact ⟨rfl, fun hv hA' => hQ _ _ (Rg.u hR (Pr_f rfl)) hA' (hv _ rfl) (fun ka ja hk => (uI_o (show ¬ (ka = 203 ∧ ja = 1) from by first | (intro e; obtain ⟨rfl, rfl⟩ := e; exact hk (by decide)) | omega)))⟩
  ·
    refine ⟨_, rfl, (by decide), ?_⟩
    have a2 : -2147483648 ≤ (I 12 6) ∧ (I 12 6) < 2147483648 := hA.1 _ _
    refine ⟨fun (c3 : (((I 12 6) : Int) ≤ v0)) => ?_, fun (c3 : (¬ (((I 12 6) : Int) ≤ v0))) => ?_⟩
    ·
      refine ⟨rfl, (by decide), ?_⟩
      refine ⟨fun c => absurd (show ((0 : Int) = 0) from by decide) c, fun _ => ?_⟩
      refine ⟨⟨_, rfl, (by decide)⟩, ?_⟩
      refine s_X11_refuse hF (e := 1) (by decide) ?_
      exact ⟨rfl, fun hv hA' => hQ _ _ (Rg.u hR (Pr_f rfl)) hA' (hv _ rfl) (fun ka ja hk => (uI_o (show ¬ (ka = 203 ∧ ja = 1) from by first | (intro e; obtain ⟨rfl, rfl⟩ := e; exact hk (by decide)) | omega)))⟩
    ·
      refine ⟨fun (c4 : ((20 : Int) ≤ v0)) => ?_, fun (c4 : (¬ ((20 : Int) ≤ v0))) => ?_⟩
      ·
        refine ⟨rfl, (by decide), ?_⟩
        refine ⟨fun c => absurd (show ((0 : Int) = 0) from by decide) c, fun _ => ?_⟩
        refine ⟨⟨_, rfl, (by decide)⟩, ?_⟩
        refine s_X11_refuse hF (e := 1) (by decide) ?_
        exact ⟨rfl, fun hv hA' => hQ _ _ (Rg.u hR (Pr_f rfl)) hA' (hv _ rfl) (fun ka ja hk => (uI_o (show ¬ (ka = 203 ∧ ja = 1) from by first | (intro e; obtain ⟨rfl, rfl⟩ := e; exact hk (by decide)) | omega)))⟩
      ·
        refine ⟨rfl, (by decide), ?_⟩
        refine ⟨fun _ => ?_, fun c => absurd c (show (¬ (1 : Int) = 0) from by decide)⟩
        refine ⟨fun (c5 : ((v1 : Int) = 0)) => ?_, fun (c5 : (¬ ((v1 : Int) = 0))) => ?_⟩
        ·
          refine ⟨_, rfl, (by decide), ?_⟩
          refine fun w0 hw0 => ?_; obtain rfl : w0 = some 16 := hw0.symm.trans (FS.g hF rfl)
          refine ⟨_, rfl, (by decide), (show (0 : Int) ≤ v0 from by first | with_reducible assumption | omega | (simp only [wr, wl] at *; omega)), (show v0 < (20 : Int) from by first | with_reducible assumption | omega | (simp only [wr, wl] at *; omega)), ?_⟩
          exact ⟨rfl, fun hv hA' => hQ _ _ hR hA' (hv _ rfl) (fun _ _ _ => rfl)⟩
        ·
          refine ⟨fun (c6 : ((v1 : Int) = 1)) => ?_, fun (c6 : (¬ ((v1 : Int) = 1))) => ?_⟩
          ·
            refine ⟨_, rfl, (by decide), ?_⟩
            refine fun w0 hw0 => ?_; obtain rfl : w0 = some 17 := hw0.symm.trans (FS.g hF rfl)
            refine ⟨_, rfl, (by decide), (show (0 : Int) ≤ v0 from by first | with_reducible assumption | omega | (simp only [wr, wl] at *; omega)), (show v0 < (20 : Int) from by first | with_reducible assumption | omega | (simp only [wr, wl] at *; omega)), ?_⟩
            exact ⟨rfl, fun hv hA' => hQ _ _ hR hA' (hv _ rfl) (fun _ _ _ => rfl)⟩
          ·
            refine ⟨fun (c7 : ((v1 : Int) = 2)) => ?_, fun (c7 : (¬ ((v1 : Int) = 2))) => ?_⟩
            ·
              refine ⟨_, rfl, (by decide), ?_⟩
              refine fun w0 hw0 => ?_; obtain rfl : w0 = some 15 := hw0.symm.trans (FS.g hF rfl)
              refine ⟨_, rfl, (by decide), (show (0 : Int) ≤ v0 from by first | with_reducible assumption | omega | (simp only [wr, wl] at *; omega)), (show v0 < (20 : Int) from by first | with_reducible assumption | omega | (simp only [wr, wl] at *; omega)), ?_⟩
              exact ⟨rfl, fun hv hA' => hQ _ _ hR hA' (hv _ rfl) (fun _ _ _ => rfl)⟩
            ·
              refine ⟨fun (c8 : ((v1 : Int) = 3)) => ?_, fun (c8 : (¬ ((v1 : Int) = 3))) => ?_⟩
              ·
                refine ⟨_, rfl, (by decide), ?_⟩
                refine fun w0 hw0 => ?_; obtain rfl : w0 = some 18 := hw0.symm.trans (FS.g hF rfl)
                refine ⟨_, rfl, (by decide), (show (0 : Int) ≤ v0 from by first | with_reducible assumption | omega | (simp only [wr, wl] at *; omega)), (show v0 < (20 : Int) from by first | with_reducible assumption | omega | (simp only [wr, wl] at *; omega)), ?_⟩
                refine ⟨⟨_, rfl, (by decide)⟩, ?_⟩
                refine Call_wp (lv := [some (vr 0), some (vi (I 18 (Int.toNat v0)))]) (by decide) ckX11_orNone [] rfl rfl ?_
                have a9 : -2147483648 ≤ (I 18 (Int.toNat v0)) ∧ (I 18 (Int.toNat v0)) < 2147483648 := hA.1 _ _
                refine ⟨fun (c10 : ((0 : Int) ≤ (I 18 (Int.toNat v0)))) => ?_, fun (c10 : (¬ ((0 : Int) ≤ (I 18 (Int.toNat v0))))) => ?_⟩
                ·
                  refine ⟨rfl, ?_⟩
                  exact ⟨rfl, fun hv hA' => hQ _ _ hR hA' (hv _ rfl) (fun _ _ _ => rfl)⟩
                ·
                  refine ⟨⟨_, rfl, (by decide)⟩, ?_⟩
                  refine s_X11_refuse hF (e := 2) (by decide) ?_
                  refine ⟨rfl, ?_⟩
                  exact ⟨rfl, fun hv hA' => hQ _ _ (Rg.u hR (Pr_f rfl)) hA' (hv _ rfl) (fun ka ja hk => (uI_o (show ¬ (ka = 203 ∧ ja = 2) from by first | (intro e; obtain ⟨rfl, rfl⟩ := e; exact hk (by decide)) | omega)))⟩
              ·
                refine ⟨⟨_, rfl, (by decide)⟩, ?_⟩
                refine s_X11_refuse hF (e := 1) (by decide) ?_
                exact ⟨rfl, fun hv hA' => hQ _ _ (Rg.u hR (Pr_f rfl)) hA' (hv _ rfl) (fun ka ja hk => (uI_o (show ¬ (ka = 203 ∧ ja = 1) from by first | (intro e; obtain ⟨rfl, rfl⟩ := e; exact hk (by decide)) | omega)))⟩
theorem c_book (hF : FS F) (hR : Rg I) {v0 v1 : Int}  (hQ : ∀ (r : Int) (I' : pI), Rg I' → AR I' → iR r → (∀ k j, ¬ (k = 203) → I' k j = I k j) → Q (some (vi r)) F I') : CallN G (d + 3) kX11_book [vr 0, vi v0, vi v1] NP F I Q := by
  refine CallN_in (fun hok hA => CallN_out ?_)
  have iv0 : -2147483648 ≤ v0 ∧ v0 < 2147483648 := hok (vi v0) (by simp)
  have iv1 : -2147483648 ≤ v1 ∧ v1 < 2147483648 := hok (vi v1) (by simp)
  refine Call_wp (lv := [some (vr 0), some (vi v0), some (vi v1)]) (by decide) ckX11_book [] rfl rfl ?_
  refine s_X11_isLot (fun (w1 : ((0 : Int) ≤ v0 ∧ (v0 : Int) ≤ 3)) => ?_) (fun (w1 : ¬ ((0 : Int) ≤ v0 ∧ (v0 : Int) ≤ 3)) => ?_)
  ·
    refine ⟨fun c => absurd c (show (¬ ((1 : Int) = 0)) from by decide), fun _ => ?_⟩
    refine s_X11_isLaw (fun (w2 : ((0 : Int) ≤ v1 ∧ (v1 : Int) ≤ 3)) => ?_) (fun (w2 : ¬ ((0 : Int) ≤ v1 ∧ (v1 : Int) ≤ 3)) => ?_)
    ·
      refine ⟨fun _ => ?_, fun c => absurd c (show (¬ (1 : Int) = 0) from by decide)⟩
      refine ⟨_, rfl, (by decide), ?_⟩
      refine fun w0 hw0 => ?_; obtain rfl : w0 = some 1 := hw0.symm.trans (FS.g hF rfl)
      refine ⟨_, rfl, (by decide), ?_⟩
      refine fun w0 hw0 => ?_; obtain rfl : w0 = some 12 := hw0.symm.trans (FS.g hF rfl)
      refine ⟨⟨_, rfl, (by decide)⟩, ?_⟩
      refine c_latest  hF hR (fun vr3 hr4 => ?_)
      have hr4 : -2147483648 ≤ vr3 ∧ vr3 < 2147483648 := hr4
      refine ⟨⟨_, rfl, (by decide)⟩, ?_⟩
      refine Call_wp (lv := [some (vr 0), some (vi vr3)]) (by decide) ckX11_orNone [] rfl rfl ?_
      refine ⟨fun (c5 : ((0 : Int) ≤ vr3)) => ?_, fun (c5 : (¬ ((0 : Int) ≤ vr3))) => ?_⟩
      ·
        refine ⟨rfl, ?_⟩
        exact ⟨rfl, fun hv hA' => hQ _ _ hR hA' (hv _ rfl) (fun _ _ _ => rfl)⟩
      ·
        refine ⟨⟨_, rfl, (by decide)⟩, ?_⟩
        refine s_X11_refuse hF (e := 2) (by decide) ?_
        refine ⟨rfl, ?_⟩
        exact ⟨rfl, fun hv hA' => hQ _ _ (Rg.u hR (Pr_f rfl)) hA' (hv _ rfl) (fun ka ja hk => (uI_o (show ¬ (ka = 203 ∧ ja = 2) from by first | (intro e; obtain ⟨rfl, rfl⟩ := e; exact hk (by decide)) | omega)))⟩
    ·
      refine ⟨fun c => absurd (show ((0 : Int) = 0) from by decide) c, fun _ => ?_⟩
      refine ⟨⟨_, rfl, (by decide)⟩, ?_⟩
      refine s_X11_refuse hF (e := 1) (by decide) ?_
      exact ⟨rfl, fun hv hA' => hQ _ _ (Rg.u hR (Pr_f rfl)) hA' (hv _ rfl) (fun ka ja hk => (uI_o (show ¬ (ka = 203 ∧ ja = 1) from by first | (intro e; obtain ⟨rfl, rfl⟩ := e; exact hk (by decide)) | omega)))⟩
  ·
    refine ⟨fun _ => ?_, fun c => absurd (show ((0 : Int) = 0) from by decide) c⟩
    refine ⟨⟨_, rfl, (by decide)⟩, ?_⟩
    refine s_X11_refuse hF (e := 1) (by decide) ?_
    exact ⟨rfl, fun hv hA' => hQ _ _ (Rg.u hR (Pr_f rfl)) hA' (hv _ rfl) (fun ka ja hk => (uI_o (show ¬ (ka = 203 ∧ ja = 1) from by first | (intro e; obtain ⟨rfl, rfl⟩ := e; exact hk (by decide)) | omega)))⟩
theorem c_plates_l2 (hF : FS F) (hR : Rg I) {s v0 v1 : Int} {h : Nat} (hh : HP F h) (hn : 0 ≤ v0 ∧ v0 ≤ 10) (hs : 1 ≤ s ∧ s ≤ 1023) (hK : ∀ (b : Int) , GoN G (d + 1) kX11_fewestPlates NP NP 87 [some (vr 0), some (vr h), some (vi v0), some (vi v1), some (vi s), some (vi b), none] [] F I Q) : ∀ (mz : Nat) (b i : Int) , ((0 : Int) ≤ i) → ((i : Int) ≤ 10) → (10 - i).toNat < mz → GoN G (d + 1) kX11_fewestPlates NP NP 36 [some (vr 0), some (vr h), some (vi v0), some (vi v1), some (vi s), some (vi b), some (vi i)] [] F I Q := by
  intro mz
  induction mz with
  | zero => intro b i _ _ h; exact absurd h (Nat.not_lt_zero _)
  | succ mz ih =>
    intro b i c100 c101 hm
    refine GoN_in (fun hok hA => ?_)
    have iiv0 : -2147483648 ≤ v0 ∧ v0 < 2147483648 := hok 2 _ rfl
    have iiv1 : -2147483648 ≤ v1 ∧ v1 < 2147483648 := hok 3 _ rfl
    have iis : -2147483648 ≤ s ∧ s < 2147483648 := hok 4 _ rfl
    have iib : -2147483648 ≤ b ∧ b < 2147483648 := hok 5 _ rfl
    have iii : -2147483648 ≤ i ∧ i < 2147483648 := hok 6 _ rfl
    refine Go_wp (by decide) ckX11_fewestPlates [36, 87] ?_
    refine ⟨fun (c1 : ((v0 : Int) ≤ i)) => ?_, fun (c1 : (¬ ((v0 : Int) ≤ i))) => ?_⟩
    ·
      refine GoN_lv (lv' := [some (vr 0), some (vr h), some (vi v0), some (vi v1), some (vi s), some (vi b), none]) (LvLe.k (LvLe.k (LvLe.k (LvLe.k (LvLe.k (LvLe.k (LvLe.d LvLe.n))))))) ?_
      exact hK b  
    ·
      have n2 : 0 ≤ (bI (srI s i) 1) ∧ (bI (srI s i) 1) ≤ 1 := bI_ri (by decide)
      refine ⟨fun (c3 : (((bI (srI s i) 1) : Int) = 0)) => ?_, fun (c3 : (¬ (((bI (srI s i) 1) : Int) = 0))) => ?_⟩
      ·
        have n4 : (wr (i + 1)) = i + 1 := wr_id (show -2147483648 ≤ (i + 1 : Int) ∧ (i + 1 : Int) < 2147483648 from by omega)
        exact ih b (wr (i + 1))  (show (0 : Int) ≤ (wr (i + 1)) from by first | with_reducible assumption | omega | (simp only [wr, wl] at *; omega)) (show ((wr (i + 1)) : Int) ≤ 10 from by first | with_reducible assumption | omega | (simp only [wr, wl] at *; omega)) (show (10 - (wr (i + 1))).toNat < mz from by omega)
      ·
        refine ⟨_, rfl, (by decide), ?_⟩
        refine fun w0 hw0 => ?_; obtain rfl : w0 = some 226 := hw0.symm.trans (FS.g hF rfl)
        have n5 : 1 ≤ (slI 1 i) ∧ (slI 1 i) ≤ 512 := slI_9 (by omega)
        have n6 : 0 ≤ (xI s (slI 1 i)) ∧ (xI s (slI 1 i)) < 1024 := xI_lt (by omega) (by omega)
        refine ⟨_, rfl, (by decide), (show (0 : Int) ≤ (xI s (slI 1 i)) from by first | with_reducible assumption | omega | (simp only [wr, wl] at *; omega)), (show (xI s (slI 1 i)) < (1024 : Int) from by first | with_reducible assumption | omega | (simp only [wr, wl] at *; omega)), ?_⟩
        refine ⟨⟨_, hh.1, (by have := hh.2.2.1; show _ < 254; omega)⟩, ?_⟩
        refine c_numberAt (v0 := i) hF hR hh (fun vr7 hr8 => ?_)
        have hr8 : -2147483648 ≤ vr7 ∧ vr7 < 2147483648 := hr8
        refine Call_wp (lv := [some (vi (I 226 (Int.toNat (xI s (slI 1 i))))), some (vi vr7), some (vi v1), none]) (by decide) ckX11_cutOneMore [] rfl rfl ?_
        refine ⟨(by decide), ?_⟩
        have a9 : -2147483648 ≤ (I 226 (Int.toNat (xI s (slI 1 i)))) ∧ (I 226 (Int.toNat (xI s (slI 1 i)))) < 2147483648 := hA.1 _ _
        have n10 : -1024 < (Int.tmod (I 226 (Int.toNat (xI s (slI 1 i)))) 1024) ∧ (Int.tmod (I 226 (Int.toNat (xI s (slI 1 i)))) 1024) < 1024 := tm_b (by decide)
        have n11 : -2147483648 ≤ (wr ((Int.tmod (I 226 (Int.toNat (xI s (slI 1 i)))) 1024) + vr7)) ∧ (wr ((Int.tmod (I 226 (Int.toNat (xI s (slI 1 i)))) 1024) + vr7)) < 2147483648 := wr_R _
        refine ⟨fun (c12 : ((v1 : Int) < (wr ((Int.tmod (I 226 (Int.toNat (xI s (slI 1 i)))) 1024) + vr7)))) => ?_, fun (c12 : (¬ ((v1 : Int) < (wr ((Int.tmod (I 226 (Int.toNat (xI s (slI 1 i)))) 1024) + vr7))))) => ?_⟩
        ·
          refine ⟨fun _ => ?_, fun c => absurd (show ((0 : Int) = 0) from by decide) c⟩
          refine ⟨(by decide), ?_⟩
          refine ⟨rfl, ?_⟩
          have n13 : -2097152 ≤ (Int.tdiv (I 226 (Int.toNat (xI s (slI 1 i)))) 1024) ∧ (Int.tdiv (I 226 (Int.toNat (xI s (slI 1 i)))) 1024) ≤ 2097152 := td_b (by decide) (by decide) (by omega) (by omega)
          have n14 : (wr (Int.tdiv (I 226 (Int.toNat (xI s (slI 1 i)))) 1024)) = (Int.tdiv (I 226 (Int.toNat (xI s (slI 1 i)))) 1024) := wr_id (show -2147483648 ≤ ((Int.tdiv (I 226 (Int.toNat (xI s (slI 1 i)))) 1024) : Int) ∧ ((Int.tdiv (I 226 (Int.toNat (xI s (slI 1 i)))) 1024) : Int) < 2147483648 from by omega)
          have n15 : (wr ((wr (Int.tdiv (I 226 (Int.toNat (xI s (slI 1 i)))) 1024)) + 1)) = (wr (Int.tdiv (I 226 (Int.toNat (xI s (slI 1 i)))) 1024)) + 1 := wr_id (show -2147483648 ≤ ((wr (Int.tdiv (I 226 (Int.toNat (xI s (slI 1 i)))) 1024)) + 1 : Int) ∧ ((wr (Int.tdiv (I 226 (Int.toNat (xI s (slI 1 i)))) 1024)) + 1 : Int) < 2147483648 from by omega)
          have n16 : -2147483648 ≤ (wr ((wr ((wr (Int.tdiv (I 226 (Int.toNat (xI s (slI 1 i)))) 1024)) + 1)) * 1024)) ∧ (wr ((wr ((wr (Int.tdiv (I 226 (Int.toNat (xI s (slI 1 i)))) 1024)) + 1)) * 1024)) < 2147483648 := wr_R _
          have n17 : -2147483648 ≤ (wr ((wr ((wr ((wr (Int.tdiv (I 226 (Int.toNat (xI s (slI 1 i)))) 1024)) + 1)) * 1024)) + vr7)) ∧ (wr ((wr ((wr ((wr (Int.tdiv (I 226 (Int.toNat (xI s (slI 1 i)))) 1024)) + 1)) * 1024)) + vr7)) < 2147483648 := wr_R _
          refine j_min (fun w18 h19 h20 h21 => ?_)
          have n22 : (wr (i + 1)) = i + 1 := wr_id (show -2147483648 ≤ (i + 1 : Int) ∧ (i + 1 : Int) < 2147483648 from by omega)
          exact ih w18 (wr (i + 1))  (show (0 : Int) ≤ (wr (i + 1)) from by first | with_reducible assumption | omega | (simp only [wr, wl] at *; omega)) (show ((wr (i + 1)) : Int) ≤ 10 from by first | with_reducible assumption | omega | (simp only [wr, wl] at *; omega)) (show (10 - (wr (i + 1))).toNat < mz from by omega)
        ·
          refine ⟨fun c => absurd c (show (¬ ((1 : Int) = 0)) from by decide), fun _ => ?_⟩
          refine ⟨rfl, ?_⟩
          have n23 : -2147483648 ≤ (wr ((I 226 (Int.toNat (xI s (slI 1 i)))) + vr7)) ∧ (wr ((I 226 (Int.toNat (xI s (slI 1 i)))) + vr7)) < 2147483648 := wr_R _
          refine j_min (fun w24 h25 h26 h27 => ?_)
          have n28 : (wr (i + 1)) = i + 1 := wr_id (show -2147483648 ≤ (i + 1 : Int) ∧ (i + 1 : Int) < 2147483648 from by omega)
          exact ih w24 (wr (i + 1))  (show (0 : Int) ≤ (wr (i + 1)) from by first | with_reducible assumption | omega | (simp only [wr, wl] at *; omega)) (show ((wr (i + 1)) : Int) ≤ 10 from by first | with_reducible assumption | omega | (simp only [wr, wl] at *; omega)) (show (10 - (wr (i + 1))).toNat < mz from by omega)
theorem c_plates_l1 (hF : FS F) (hR : Rg I) {v0 v1 : Int} {h : Nat} (hh : HP F h) (hn : 0 ≤ v0 ∧ v0 ≤ 10) (hQ : ∀ (r : Int) (I' : pI), Rg I' → (∀ k j, ¬ (k = 226) → I' k j = I k j) → Q (some (vi r)) F I') : ∀ (mz : Nat) (s : Int) (J : pI), Rg J → (∀ k j, ¬ (k = 226) → J k j = I k j) → ((1 : Int) ≤ s) → ((s : Int) ≤ 1024) → (1024 - s).toNat < mz → GoN G (d + 1) kX11_fewestPlates NP NP 10 [some (vr 0), some (vr h), some (vi v0), some (vi v1), some (vi s), none, none] [] F J Q := by
  intro mz
  induction mz with
  | zero => intro s J hJ hV _ _ h; exact absurd h (Nat.not_lt_zero _)
  | succ mz ih =>
    intro s J hJ hV c100 c101 hm
    refine GoN_in (fun hok hA => ?_)
    have iiv0 : -2147483648 ≤ v0 ∧ v0 < 2147483648 := hok 2 _ rfl
    have iiv1 : -2147483648 ≤ v1 ∧ v1 < 2147483648 := hok 3 _ rfl
    have iis : -2147483648 ≤ s ∧ s < 2147483648 := hok 4 _ rfl
    refine Go_wp (by decide) ckX11_fewestPlates [10, 36] ?_
    have n1 : 1 ≤ (slI 1 v0) ∧ (slI 1 v0) ≤ 1024 := slI_10 (by omega)
    refine ⟨fun (c2 : (((slI 1 v0) : Int) ≤ s)) => ?_, fun (c2 : (¬ (((slI 1 v0) : Int) ≤ s))) => ?_⟩
    ·
      refine ⟨_, rfl, (by decide), ?_⟩
      refine fun w0 hw0 => ?_; obtain rfl : w0 = some 226 := hw0.symm.trans (FS.g hF rfl)
      have n3 : (wr ((slI 1 v0) - 1)) = (slI 1 v0) - 1 := wr_id (show -2147483648 ≤ ((slI 1 v0) - 1 : Int) ∧ ((slI 1 v0) - 1 : Int) < 2147483648 from by omega)
      refine ⟨_, rfl, (by decide), (show (0 : Int) ≤ (wr ((slI 1 v0) - 1)) from by first | with_reducible assumption | omega | (simp only [wr, wl] at *; omega)), (show (wr ((slI 1 v0) - 1)) < (1024 : Int) from by first | with_reducible assumption | omega | (simp only [wr, wl] at *; omega)), ?_⟩
      refine ⟨(by decide), ?_⟩
      exact ⟨rfl, hQ _ _ hJ (fun ka ja hk => (hV ka ja (by omega)))⟩
    ·
      refine ⟨_, rfl, (by decide), ?_⟩
      refine fun w0 hw0 => ?_; obtain rfl : w0 = some 226 := hw0.symm.trans (FS.g hF rfl)
      refine ⟨_, _, (by decide), rfl, (by decide), ?_⟩
      refine ⟨fun c => absurd c (show (¬ ((1024 : Int) ≤ s)) from by first | omega | (simp only [wr, wl] at *; omega)), fun _ => ?_⟩
      refine c_plates_l2 hF hJ hh (by omega) (by omega) (fun y4 => ?_) _ 2000000000 0  (show (0 : Int) ≤ (0 : Int) from Int.le_refl _) (show ((0 : Int) : Int) ≤ 10 from by first | with_reducible assumption | omega | (simp only [wr, wl] at *; omega)) (Nat.lt_succ_self _)
      refine GoN_in (fun hok5 hA6 => ?_)
      have i7 : -2147483648 ≤ y4 ∧ y4 < 2147483648 := hok5 5 _ rfl
      refine Go_wp (by decide) ckX11_fewestPlates [10, 36] ?_
      refine ⟨_, rfl, (by decide), ?_⟩
      refine fun w0 hw0 => ?_; obtain rfl : w0 = some 226 := hw0.symm.trans (FS.g hF rfl)
      refine ⟨_, rfl, (by decide), (show (0 : Int) ≤ s from by first | with_reducible assumption | omega | (simp only [wr, wl] at *; omega)), (show s < (1024 : Int) from by first | with_reducible assumption | omega | (simp only [wr, wl] at *; omega)), ?_⟩
      refine GoN_lv (lv' := [some (vr 0), some (vr h), some (vi v0), some (vi v1), some (vi (wr (s + 1))), none, none]) (LvLe.k (LvLe.k (LvLe.k (LvLe.k (LvLe.k (LvLe.d (LvLe.k LvLe.n))))))) ?_
      have n8 : (wr (s + 1)) = s + 1 := wr_id (show -2147483648 ≤ (s + 1 : Int) ∧ (s + 1 : Int) < 2147483648 from by omega)
      exact ih (wr (s + 1)) (uI J 226 (Int.toNat s) y4) (Rg.u hJ (Pr_p (k := 226) rfl _ _)) (fun ka ja hk => ((uI_o (show ¬ (ka = 226 ∧ ja = (Int.toNat s)) from by first | (intro e; obtain ⟨rfl, _⟩ := e; exact hk (by decide)) | omega))).trans ((hV ka ja (by omega)))) (show (1 : Int) ≤ (wr (s + 1)) from by first | with_reducible assumption | omega | (simp only [wr, wl] at *; omega)) (show ((wr (s + 1)) : Int) ≤ 1024 from by first | with_reducible assumption | omega | (simp only [wr, wl] at *; omega)) (show (1024 - (wr (s + 1))).toNat < mz from by omega)
theorem c_fewest (hF : FS F) (hR : Rg I) {v0 v1 : Int} {h : Nat} (hh : HP F h) (hn : 0 ≤ v0 ∧ v0 ≤ 10) (hQ : ∀ (r : Int) (I' : pI), Rg I' → AR I' → iR r → (∀ k j, ¬ (k = 226) → I' k j = I k j) → Q (some (vi r)) F I') : CallN G (d + 1) kX11_fewestPlates [vr 0, vr h, vi v0, vi v1] NP F I Q := by
  refine CallN_in (fun hok hA => CallN_out ?_)
  have iv0 : -2147483648 ≤ v0 ∧ v0 < 2147483648 := hok (vi v0) (by simp)
  have iv1 : -2147483648 ≤ v1 ∧ v1 < 2147483648 := hok (vi v1) (by simp)
  refine Call_wp (lv := [some (vr 0), some (vr h), some (vi v0), some (vi v1), none, none, none]) (by decide) ckX11_fewestPlates [10] rfl rfl ?_
  refine ⟨_, rfl, (by decide), ?_⟩
  refine fun w0 hw0 => ?_; obtain rfl : w0 = some 226 := hw0.symm.trans (FS.g hF rfl)
  refine ⟨_, rfl, (by decide), (by decide), (by decide), ?_⟩
  refine c_plates_l1 hF hR hh (by omega) (fun r I' g1 g2 hv hA' => hQ _ _ g1 hA' (hv _ rfl) g2) _ 1 (uI I 226 0 v1) (Rg.u hR (Pr_f rfl)) (fun ka ja hk => (uI_o (show ¬ (ka = 226 ∧ ja = 0) from by first | (intro e; obtain ⟨rfl, rfl⟩ := e; exact hk (by decide)) | omega))) (show (1 : Int) ≤ (1 : Int) from Int.le_refl _) (show ((1 : Int) : Int) ≤ 1024 from by first | with_reducible assumption | omega | (simp only [wr, wl] at *; omega)) (Nat.lt_succ_self _)
theorem c_plates (hF : FS F) (hR : Rg I) {v0 v1 v2 : Int}  (hQ : ∀ (r : Int) (I' : pI), Rg I' → AR I' → iR r → (∀ k j, ¬ (k = 203 ∨ k = 226) → I' k j = I k j) → Q (some (vi r)) F I') : CallN G (d + 2) kX11_plates [vr 0, vi v0, vi v1, vi v2] NP F I Q := by
  refine CallN_in (fun hok hA => CallN_out ?_)
  have iv0 : -2147483648 ≤ v0 ∧ v0 < 2147483648 := hok (vi v0) (by simp)
  have iv1 : -2147483648 ≤ v1 ∧ v1 < 2147483648 := hok (vi v1) (by simp)
  have iv2 : -2147483648 ≤ v2 ∧ v2 < 2147483648 := hok (vi v2) (by simp)
  refine Call_wp (lv := [some (vr 0), some (vi v0), some (vi v1), some (vi v2), none]) (by decide) ckX11_plates [] rfl rfl ?_
  refine ⟨⟨_, rfl, (by decide)⟩, ?_⟩
  refine s_X11_sheetAt hF (fun (w1 : (0 ≤ v0 ∧ v0 ≤ 3)) => ?_) (fun (w1 : ¬ (0 ≤ v0 ∧ v0 ≤ 3)) => ?_)
  ·
    have hp2 : HP F (227 + 2 * Int.toNat v0) := HP_of hF w1
    refine s_X11_within (fun (w3 : ((0 : Int) ≤ v1 ∧ (v1 : Int) ≤ 10)) => ?_) (fun (w3 : ¬ ((0 : Int) ≤ v1 ∧ (v1 : Int) ≤ 10)) => ?_)
    ·
      refine ⟨fun c => absurd c (show (¬ ((1 : Int) = 0)) from by decide), fun _ => ?_⟩
      refine s_X11_within (fun (w4 : ((1 : Int) ≤ v2 ∧ (v2 : Int) ≤ 999)) => ?_) (fun (w4 : ¬ ((1 : Int) ≤ v2 ∧ (v2 : Int) ≤ 999)) => ?_)
      ·
        refine ⟨fun _ => ?_, fun c => absurd c (show (¬ (1 : Int) = 0) from by decide)⟩
        refine ⟨⟨_, hp2.1, (by have := hp2.2.2.1; show _ < 254; omega)⟩, ?_⟩
        refine Call_wp (lv := [some (vr (227 + 2 * Int.toNat v0))]) (by decide) ckX7_isMissing [] rfl rfl ?_
        refine ⟨_, hp2.1, (by have := hp2.2.2.1; show _ < 254; omega), ?_⟩
        have a5 : -2147483648 ≤ (I (227 + 2 * Int.toNat v0) 0) ∧ (I (227 + 2 * Int.toNat v0) 0) < 2147483648 := hA.1 _ _
        refine ⟨fun (c6 : (¬ ((I (227 + 2 * Int.toNat v0) 0) : Int) = 0)) => ?_, fun (c6 : (((I (227 + 2 * Int.toNat v0) 0) : Int) = 0)) => ?_⟩
        ·
          refine ⟨rfl, (by decide), ?_⟩
          refine ⟨fun _ => ?_, fun c => absurd (show ((0 : Int) = 0) from by decide) c⟩
          refine ⟨⟨_, hp2.1, (by have := hp2.2.2.1; show _ < 254; omega)⟩, ?_⟩
          refine c_begins (v0 := v1) (v1 := 1) (v2 := 999) hF hR hp2 (fun vr7 hr8 q9 => ?_)
          have hr8 : -2147483648 ≤ vr7 ∧ vr7 < 2147483648 := hr8
          have q9 : 0 ≤ vr7 ∧ vr7 ≤ 1 := q9
          refine ⟨fun (c10 : (¬ (vr7 : Int) = 0)) => ?_, fun (c10 : ((vr7 : Int) = 0)) => ?_⟩
          ·
            refine ⟨⟨_, hp2.1, (by have := hp2.2.2.1; show _ < 254; omega)⟩, ?_⟩
            refine c_begins (v0 := v1) (v1 := 1) (v2 := v2) hF hR hp2 (fun vr11 hr12 q13 => ?_)
            have hr12 : -2147483648 ≤ vr11 ∧ vr11 < 2147483648 := hr12
            have q13 : 0 ≤ vr11 ∧ vr11 ≤ 1 := q13
            refine ⟨fun (c14 : (¬ (vr11 : Int) = 0)) => ?_, fun (c14 : ((vr11 : Int) = 0)) => ?_⟩
            ·
              refine ⟨⟨_, rfl, (by decide)⟩, ?_⟩
              refine c_fewest (v0 := v1) (v1 := v2) hF hR hp2 (by omega) (fun vr15 I16 hR17 hA18 hr20 hW19 => ?_)
              have hr20 : -2147483648 ≤ vr15 ∧ vr15 < 2147483648 := hr20
              exact ⟨rfl, fun hv hA' => hQ _ _ hR17 hA' (hv _ rfl) (fun ka ja hk => (hW19 ka ja (by omega)))⟩
            ·
              refine ⟨⟨_, rfl, (by decide)⟩, ?_⟩
              refine s_X11_refuse hF (e := 3) (by decide) ?_
              exact ⟨rfl, fun hv hA' => hQ _ _ (Rg.u hR (Pr_f rfl)) hA' (hv _ rfl) (fun ka ja hk => (uI_o (show ¬ (ka = 203 ∧ ja = 3) from by first | (intro e; obtain ⟨rfl, rfl⟩ := e; exact hk (by decide)) | omega)))⟩
          ·
            refine ⟨⟨_, rfl, (by decide)⟩, ?_⟩
            refine s_X11_refuse hF (e := 1) (by decide) ?_
            exact ⟨rfl, fun hv hA' => hQ _ _ (Rg.u hR (Pr_f rfl)) hA' (hv _ rfl) (fun ka ja hk => (uI_o (show ¬ (ka = 203 ∧ ja = 1) from by first | (intro e; obtain ⟨rfl, rfl⟩ := e; exact hk (by decide)) | omega)))⟩
        ·
          refine ⟨rfl, (by decide), ?_⟩
          refine ⟨fun c => absurd c (show (¬ ((1 : Int) = 0)) from by decide), fun _ => ?_⟩
          refine ⟨⟨_, rfl, (by decide)⟩, ?_⟩
          refine s_X11_refuse hF (e := 2) (by decide) ?_
          exact ⟨rfl, fun hv hA' => hQ _ _ (Rg.u hR (Pr_f rfl)) hA' (hv _ rfl) (fun ka ja hk => (uI_o (show ¬ (ka = 203 ∧ ja = 2) from by first | (intro e; obtain ⟨rfl, rfl⟩ := e; exact hk (by decide)) | omega)))⟩
      ·
        refine ⟨fun c => absurd (show ((0 : Int) = 0) from by decide) c, fun _ => ?_⟩
        refine ⟨⟨_, rfl, (by decide)⟩, ?_⟩
        refine s_X11_refuse hF (e := 1) (by decide) ?_
        exact ⟨rfl, fun hv hA' => hQ _ _ (Rg.u hR (Pr_f rfl)) hA' (hv _ rfl) (fun ka ja hk => (uI_o (show ¬ (ka = 203 ∧ ja = 1) from by first | (intro e; obtain ⟨rfl, rfl⟩ := e; exact hk (by decide)) | omega)))⟩
    ·
      refine ⟨fun _ => ?_, fun c => absurd (show ((0 : Int) = 0) from by decide) c⟩
      refine ⟨⟨_, rfl, (by decide)⟩, ?_⟩
      refine s_X11_refuse hF (e := 1) (by decide) ?_
      exact ⟨rfl, fun hv hA' => hQ _ _ (Rg.u hR (Pr_f rfl)) hA' (hv _ rfl) (fun ka ja hk => (uI_o (show ¬ (ka = 203 ∧ ja = 1) from by first | (intro e; obtain ⟨rfl, rfl⟩ := e; exact hk (by decide)) | omega)))⟩
  ·
    refine ⟨⟨_, rfl, (by decide)⟩, ?_⟩
    refine s_X11_refuse hF (e := 1) (by decide) ?_
    exact ⟨rfl, fun hv hA' => hQ _ _ (Rg.u hR (Pr_f rfl)) hA' (hv _ rfl) (fun ka ja hk => (uI_o (show ¬ (ka = 203 ∧ ja = 1) from by first | (intro e; obtain ⟨rfl, rfl⟩ := e; exact hk (by decide)) | omega)))⟩
theorem c_sums_l (hF : FS F) (hR : Rg I) {v0 v1 : Int}  (hQ : ∀ (r : Int) , Q (some (vi r)) F I) : ∀ (mz : Nat) (s i : Int) , ((0 : Int) ≤ i) → (v1 - i).toNat < mz → GoN G (d + 1) kX11_sumsApart NP NP 4 [some (vi v0), some (vi v1), some (vi s), some (vi i)] [] F I Q := by
  intro mz
  induction mz with
  | zero => intro s i _ h; exact absurd h (Nat.not_lt_zero _)
  | succ mz ih =>
    intro s i c100 hm
    refine GoN_in (fun hok hA => ?_)
    have iiv0 : -2147483648 ≤ v0 ∧ v0 < 2147483648 := hok 0 _ rfl
    have iiv1 : -2147483648 ≤ v1 ∧ v1 < 2147483648 := hok 1 _ rfl
    have iis : -2147483648 ≤ s ∧ s < 2147483648 := hok 2 _ rfl
    have iii : -2147483648 ≤ i ∧ i < 2147483648 := hok 3 _ rfl
    refine Go_wp (by decide) ckX11_sumsApart [4] ?_
    refine ⟨fun (c1 : ((v1 : Int) ≤ i)) => ?_, fun (c1 : (¬ ((v1 : Int) ≤ i))) => ?_⟩
    ·
      refine Call_wp (lv := [some (vi s)]) (by decide) ckJ9_abs_0f7a4 [] rfl rfl ?_
      refine ⟨fun (c2 : ((0 : Int) ≤ s)) => ?_, fun (c2 : (¬ ((0 : Int) ≤ s))) => ?_⟩
      ·
        refine ⟨rfl, ?_⟩
        exact ⟨rfl, hQ _⟩
      ·
        refine ⟨rfl, ?_⟩
        exact ⟨rfl, hQ _⟩
    ·
      have n3 : 0 ≤ (bI (srI v0 i) 1) ∧ (bI (srI v0 i) 1) ≤ 1 := bI_ri (by decide)
      refine ⟨fun (c4 : (((bI (srI v0 i) 1) : Int) = 0)) => ?_, fun (c4 : (¬ (((bI (srI v0 i) 1) : Int) = 0))) => ?_⟩
      ·
        have n5 : -2147483648 ≤ (wr (s + (wr (- (wr (i + 1)))))) ∧ (wr (s + (wr (- (wr (i + 1)))))) < 2147483648 := wr_R _
        have n6 : (wr (i + 1)) = i + 1 := wr_id (show -2147483648 ≤ (i + 1 : Int) ∧ (i + 1 : Int) < 2147483648 from by omega)
        exact ih (wr (s + (wr (- (wr (i + 1)))))) (wr (i + 1))  (show (0 : Int) ≤ (wr (i + 1)) from by first | with_reducible assumption | omega | (simp only [wr, wl] at *; omega)) (show (v1 - (wr (i + 1))).toNat < mz from by omega)
      ·
        have n7 : (wr (i + 1)) = i + 1 := wr_id (show -2147483648 ≤ (i + 1 : Int) ∧ (i + 1 : Int) < 2147483648 from by omega)
        have n8 : -2147483648 ≤ (wr (s + (wr (i + 1)))) ∧ (wr (s + (wr (i + 1)))) < 2147483648 := wr_R _
        exact ih (wr (s + (wr (i + 1)))) (wr (i + 1))  (show (0 : Int) ≤ (wr (i + 1)) from by first | with_reducible assumption | omega | (simp only [wr, wl] at *; omega)) (show (v1 - (wr (i + 1))).toNat < mz from by omega)
theorem c_sums (hF : FS F) (hR : Rg I) {v0 v1 : Int}  (hQ : ∀ r : Int, iR r → Q (some (vi r)) F I) : CallN G (d + 1) kX11_sumsApart [vi v0, vi v1] NP F I Q := by
  refine CallN_in (fun hok hA => CallN_out ?_)
  have iv0 : -2147483648 ≤ v0 ∧ v0 < 2147483648 := hok (vi v0) (by simp)
  have iv1 : -2147483648 ≤ v1 ∧ v1 < 2147483648 := hok (vi v1) (by simp)
  refine Call_wp (lv := [some (vi v0), some (vi v1), none, none]) (by decide) ckX11_sumsApart [4] rfl rfl ?_
  refine c_sums_l hF hR  (fun r hv hA' => hQ _ (hv _ rfl)) _ 0 0  (show (0 : Int) ≤ (0 : Int) from Int.le_refl _) (Nat.lt_succ_self _)
theorem c_drift_l (hF : FS F) (hR : Rg I) {v0 : Int} (hn : 2 ≤ v0 ∧ v0 ≤ 12) (hQ : ∀ (r : Int) , Q (some (vi r)) F I) : ∀ (mz : Nat) (b le s : Int) , ((0 : Int) ≤ s) → ((s : Int) ≤ 4096) → (4096 - s).toNat < mz → GoN G (d + 2) kX11_drift NP NP 25 [some (vr 0), some (vi v0), some (vi b), some (vi le), some (vi s)] [] F I Q := by
  intro mz
  induction mz with
  | zero => intro b le s _ _ h; exact absurd h (Nat.not_lt_zero _)
  | succ mz ih =>
    intro b le s c100 c101 hm
    refine GoN_in (fun hok hA => ?_)
    have iiv0 : -2147483648 ≤ v0 ∧ v0 < 2147483648 := hok 1 _ rfl
    have iib : -2147483648 ≤ b ∧ b < 2147483648 := hok 2 _ rfl
    have iile : -2147483648 ≤ le ∧ le < 2147483648 := hok 3 _ rfl
    have iis : -2147483648 ≤ s ∧ s < 2147483648 := hok 4 _ rfl
    refine Go_wp (by decide) ckX11_drift [25] ?_
    have n1 : 1 ≤ (slI 1 v0) ∧ (slI 1 v0) ≤ 4096 := slI_12 (by omega)
    refine ⟨fun (c2 : (((slI 1 v0) : Int) ≤ s)) => ?_, fun (c2 : (¬ (((slI 1 v0) : Int) ≤ s))) => ?_⟩
    ·
      exact ⟨rfl, hQ _⟩
    ·
      refine Call_wp (lv := [some (vi s)]) (by decide) ckJ6_bitCount_0f7a4 [] rfl rfl ?_
      refine ⟨rfl, ?_⟩
      refine ⟨(by decide), ?_⟩
      have n3 : 0 ≤ (bI (suI s 1) 1431655765) ∧ (bI (suI s 1) 1431655765) ≤ 1431655765 := bI_ri (by decide)
      have n4 : (wr (s - (bI (suI s 1) 1431655765))) = s - (bI (suI s 1) 1431655765) := wr_id (show -2147483648 ≤ (s - (bI (suI s 1) 1431655765) : Int) ∧ (s - (bI (suI s 1) 1431655765) : Int) < 2147483648 from by omega)
      have n5 : 0 ≤ (bI (wr (s - (bI (suI s 1) 1431655765))) 858993459) ∧ (bI (wr (s - (bI (suI s 1) 1431655765))) 858993459) ≤ 858993459 := bI_ri (by decide)
      have n6 : 0 ≤ (bI (suI (wr (s - (bI (suI s 1) 1431655765))) 2) 858993459) ∧ (bI (suI (wr (s - (bI (suI s 1) 1431655765))) 2) 858993459) ≤ 858993459 := bI_ri (by decide)
      have n7 : (wr ((bI (wr (s - (bI (suI s 1) 1431655765))) 858993459) + (bI (suI (wr (s - (bI (suI s 1) 1431655765))) 2) 858993459))) = (bI (wr (s - (bI (suI s 1) 1431655765))) 858993459) + (bI (suI (wr (s - (bI (suI s 1) 1431655765))) 2) 858993459) := wr_id (show -2147483648 ≤ ((bI (wr (s - (bI (suI s 1) 1431655765))) 858993459) + (bI (suI (wr (s - (bI (suI s 1) 1431655765))) 2) 858993459) : Int) ∧ ((bI (wr (s - (bI (suI s 1) 1431655765))) 858993459) + (bI (suI (wr (s - (bI (suI s 1) 1431655765))) 2) 858993459) : Int) < 2147483648 from by omega)
      have n8 : -2147483648 ≤ (wr ((wr ((bI (wr (s - (bI (suI s 1) 1431655765))) 858993459) + (bI (suI (wr (s - (bI (suI s 1) 1431655765))) 2) 858993459))) + (suI (wr ((bI (wr (s - (bI (suI s 1) 1431655765))) 858993459) + (bI (suI (wr (s - (bI (suI s 1) 1431655765))) 2) 858993459))) 4))) ∧ (wr ((wr ((bI (wr (s - (bI (suI s 1) 1431655765))) 858993459) + (bI (suI (wr (s - (bI (suI s 1) 1431655765))) 2) 858993459))) + (suI (wr ((bI (wr (s - (bI (suI s 1) 1431655765))) 858993459) + (bI (suI (wr (s - (bI (suI s 1) 1431655765))) 2) 858993459))) 4))) < 2147483648 := wr_R _
      have n9 : 0 ≤ (bI (wr ((wr ((bI (wr (s - (bI (suI s 1) 1431655765))) 858993459) + (bI (suI (wr (s - (bI (suI s 1) 1431655765))) 2) 858993459))) + (suI (wr ((bI (wr (s - (bI (suI s 1) 1431655765))) 858993459) + (bI (suI (wr (s - (bI (suI s 1) 1431655765))) 2) 858993459))) 4))) 252645135) ∧ (bI (wr ((wr ((bI (wr (s - (bI (suI s 1) 1431655765))) 858993459) + (bI (suI (wr (s - (bI (suI s 1) 1431655765))) 2) 858993459))) + (suI (wr ((bI (wr (s - (bI (suI s 1) 1431655765))) 858993459) + (bI (suI (wr (s - (bI (suI s 1) 1431655765))) 2) 858993459))) 4))) 252645135) ≤ 252645135 := bI_ri (by decide)
      have n10 : -2147483648 ≤ (wr ((bI (wr ((wr ((bI (wr (s - (bI (suI s 1) 1431655765))) 858993459) + (bI (suI (wr (s - (bI (suI s 1) 1431655765))) 2) 858993459))) + (suI (wr ((bI (wr (s - (bI (suI s 1) 1431655765))) 858993459) + (bI (suI (wr (s - (bI (suI s 1) 1431655765))) 2) 858993459))) 4))) 252645135) + (suI (bI (wr ((wr ((bI (wr (s - (bI (suI s 1) 1431655765))) 858993459) + (bI (suI (wr (s - (bI (suI s 1) 1431655765))) 2) 858993459))) + (suI (wr ((bI (wr (s - (bI (suI s 1) 1431655765))) 858993459) + (bI (suI (wr (s - (bI (suI s 1) 1431655765))) 2) 858993459))) 4))) 252645135) 8))) ∧ (wr ((bI (wr ((wr ((bI (wr (s - (bI (suI s 1) 1431655765))) 858993459) + (bI (suI (wr (s - (bI (suI s 1) 1431655765))) 2) 858993459))) + (suI (wr ((bI (wr (s - (bI (suI s 1) 1431655765))) 858993459) + (bI (suI (wr (s - (bI (suI s 1) 1431655765))) 2) 858993459))) 4))) 252645135) + (suI (bI (wr ((wr ((bI (wr (s - (bI (suI s 1) 1431655765))) 858993459) + (bI (suI (wr (s - (bI (suI s 1) 1431655765))) 2) 858993459))) + (suI (wr ((bI (wr (s - (bI (suI s 1) 1431655765))) 858993459) + (bI (suI (wr (s - (bI (suI s 1) 1431655765))) 2) 858993459))) 4))) 252645135) 8))) < 2147483648 := wr_R _
      have n11 : -2147483648 ≤ (wr ((wr ((bI (wr ((wr ((bI (wr (s - (bI (suI s 1) 1431655765))) 858993459) + (bI (suI (wr (s - (bI (suI s 1) 1431655765))) 2) 858993459))) + (suI (wr ((bI (wr (s - (bI (suI s 1) 1431655765))) 858993459) + (bI (suI (wr (s - (bI (suI s 1) 1431655765))) 2) 858993459))) 4))) 252645135) + (suI (bI (wr ((wr ((bI (wr (s - (bI (suI s 1) 1431655765))) 858993459) + (bI (suI (wr (s - (bI (suI s 1) 1431655765))) 2) 858993459))) + (suI (wr ((bI (wr (s - (bI (suI s 1) 1431655765))) 858993459) + (bI (suI (wr (s - (bI (suI s 1) 1431655765))) 2) 858993459))) 4))) 252645135) 8))) + (suI (wr ((bI (wr ((wr ((bI (wr (s - (bI (suI s 1) 1431655765))) 858993459) + (bI (suI (wr (s - (bI (suI s 1) 1431655765))) 2) 858993459))) + (suI (wr ((bI (wr (s - (bI (suI s 1) 1431655765))) 858993459) + (bI (suI (wr (s - (bI (suI s 1) 1431655765))) 2) 858993459))) 4))) 252645135) + (suI (bI (wr ((wr ((bI (wr (s - (bI (suI s 1) 1431655765))) 858993459) + (bI (suI (wr (s - (bI (suI s 1) 1431655765))) 2) 858993459))) + (suI (wr ((bI (wr (s - (bI (suI s 1) 1431655765))) 858993459) + (bI (suI (wr (s - (bI (suI s 1) 1431655765))) 2) 858993459))) 4))) 252645135) 8))) 16))) ∧ (wr ((wr ((bI (wr ((wr ((bI (wr (s - (bI (suI s 1) 1431655765))) 858993459) + (bI (suI (wr (s - (bI (suI s 1) 1431655765))) 2) 858993459))) + (suI (wr ((bI (wr (s - (bI (suI s 1) 1431655765))) 858993459) + (bI (suI (wr (s - (bI (suI s 1) 1431655765))) 2) 858993459))) 4))) 252645135) + (suI (bI (wr ((wr ((bI (wr (s - (bI (suI s 1) 1431655765))) 858993459) + (bI (suI (wr (s - (bI (suI s 1) 1431655765))) 2) 858993459))) + (suI (wr ((bI (wr (s - (bI (suI s 1) 1431655765))) 858993459) + (bI (suI (wr (s - (bI (suI s 1) 1431655765))) 2) 858993459))) 4))) 252645135) 8))) + (suI (wr ((bI (wr ((wr ((bI (wr (s - (bI (suI s 1) 1431655765))) 858993459) + (bI (suI (wr (s - (bI (suI s 1) 1431655765))) 2) 858993459))) + (suI (wr ((bI (wr (s - (bI (suI s 1) 1431655765))) 858993459) + (bI (suI (wr (s - (bI (suI s 1) 1431655765))) 2) 858993459))) 4))) 252645135) + (suI (bI (wr ((wr ((bI (wr (s - (bI (suI s 1) 1431655765))) 858993459) + (bI (suI (wr (s - (bI (suI s 1) 1431655765))) 2) 858993459))) + (suI (wr ((bI (wr (s - (bI (suI s 1) 1431655765))) 858993459) + (bI (suI (wr (s - (bI (suI s 1) 1431655765))) 2) 858993459))) 4))) 252645135) 8))) 16))) < 2147483648 := wr_R _
      have n12 : 0 ≤ (bI (wr ((wr ((bI (wr ((wr ((bI (wr (s - (bI (suI s 1) 1431655765))) 858993459) + (bI (suI (wr (s - (bI (suI s 1) 1431655765))) 2) 858993459))) + (suI (wr ((bI (wr (s - (bI (suI s 1) 1431655765))) 858993459) + (bI (suI (wr (s - (bI (suI s 1) 1431655765))) 2) 858993459))) 4))) 252645135) + (suI (bI (wr ((wr ((bI (wr (s - (bI (suI s 1) 1431655765))) 858993459) + (bI (suI (wr (s - (bI (suI s 1) 1431655765))) 2) 858993459))) + (suI (wr ((bI (wr (s - (bI (suI s 1) 1431655765))) 858993459) + (bI (suI (wr (s - (bI (suI s 1) 1431655765))) 2) 858993459))) 4))) 252645135) 8))) + (suI (wr ((bI (wr ((wr ((bI (wr (s - (bI (suI s 1) 1431655765))) 858993459) + (bI (suI (wr (s - (bI (suI s 1) 1431655765))) 2) 858993459))) + (suI (wr ((bI (wr (s - (bI (suI s 1) 1431655765))) 858993459) + (bI (suI (wr (s - (bI (suI s 1) 1431655765))) 2) 858993459))) 4))) 252645135) + (suI (bI (wr ((wr ((bI (wr (s - (bI (suI s 1) 1431655765))) 858993459) + (bI (suI (wr (s - (bI (suI s 1) 1431655765))) 2) 858993459))) + (suI (wr ((bI (wr (s - (bI (suI s 1) 1431655765))) 858993459) + (bI (suI (wr (s - (bI (suI s 1) 1431655765))) 2) 858993459))) 4))) 252645135) 8))) 16))) 63) ∧ (bI (wr ((wr ((bI (wr ((wr ((bI (wr (s - (bI (suI s 1) 1431655765))) 858993459) + (bI (suI (wr (s - (bI (suI s 1) 1431655765))) 2) 858993459))) + (suI (wr ((bI (wr (s - (bI (suI s 1) 1431655765))) 858993459) + (bI (suI (wr (s - (bI (suI s 1) 1431655765))) 2) 858993459))) 4))) 252645135) + (suI (bI (wr ((wr ((bI (wr (s - (bI (suI s 1) 1431655765))) 858993459) + (bI (suI (wr (s - (bI (suI s 1) 1431655765))) 2) 858993459))) + (suI (wr ((bI (wr (s - (bI (suI s 1) 1431655765))) 858993459) + (bI (suI (wr (s - (bI (suI s 1) 1431655765))) 2) 858993459))) 4))) 252645135) 8))) + (suI (wr ((bI (wr ((wr ((bI (wr (s - (bI (suI s 1) 1431655765))) 858993459) + (bI (suI (wr (s - (bI (suI s 1) 1431655765))) 2) 858993459))) + (suI (wr ((bI (wr (s - (bI (suI s 1) 1431655765))) 858993459) + (bI (suI (wr (s - (bI (suI s 1) 1431655765))) 2) 858993459))) 4))) 252645135) + (suI (bI (wr ((wr ((bI (wr (s - (bI (suI s 1) 1431655765))) 858993459) + (bI (suI (wr (s - (bI (suI s 1) 1431655765))) 2) 858993459))) + (suI (wr ((bI (wr (s - (bI (suI s 1) 1431655765))) 858993459) + (bI (suI (wr (s - (bI (suI s 1) 1431655765))) 2) 858993459))) 4))) 252645135) 8))) 16))) 63) ≤ 63 := bI_ri (by decide)
      have n13 : (Int.tdiv v0 2) = (v0 : Int) / 2 := Int.tdiv_eq_ediv_of_nonneg (by omega)
      have n14 : (wr (Int.tdiv v0 2)) = (Int.tdiv v0 2) := wr_id (show -2147483648 ≤ ((Int.tdiv v0 2) : Int) ∧ ((Int.tdiv v0 2) : Int) < 2147483648 from by omega)
      refine ⟨fun (c15 : (¬ ((bI (wr ((wr ((bI (wr ((wr ((bI (wr (s - (bI (suI s 1) 1431655765))) 858993459) + (bI (suI (wr (s - (bI (suI s 1) 1431655765))) 2) 858993459))) + (suI (wr ((bI (wr (s - (bI (suI s 1) 1431655765))) 858993459) + (bI (suI (wr (s - (bI (suI s 1) 1431655765))) 2) 858993459))) 4))) 252645135) + (suI (bI (wr ((wr ((bI (wr (s - (bI (suI s 1) 1431655765))) 858993459) + (bI (suI (wr (s - (bI (suI s 1) 1431655765))) 2) 858993459))) + (suI (wr ((bI (wr (s - (bI (suI s 1) 1431655765))) 858993459) + (bI (suI (wr (s - (bI (suI s 1) 1431655765))) 2) 858993459))) 4))) 252645135) 8))) + (suI (wr ((bI (wr ((wr ((bI (wr (s - (bI (suI s 1) 1431655765))) 858993459) + (bI (suI (wr (s - (bI (suI s 1) 1431655765))) 2) 858993459))) + (suI (wr ((bI (wr (s - (bI (suI s 1) 1431655765))) 858993459) + (bI (suI (wr (s - (bI (suI s 1) 1431655765))) 2) 858993459))) 4))) 252645135) + (suI (bI (wr ((wr ((bI (wr (s - (bI (suI s 1) 1431655765))) 858993459) + (bI (suI (wr (s - (bI (suI s 1) 1431655765))) 2) 858993459))) + (suI (wr ((bI (wr (s - (bI (suI s 1) 1431655765))) 858993459) + (bI (suI (wr (s - (bI (suI s 1) 1431655765))) 2) 858993459))) 4))) 252645135) 8))) 16))) 63) : Int) = (wr (Int.tdiv v0 2)))) => ?_, fun (c15 : (((bI (wr ((wr ((bI (wr ((wr ((bI (wr (s - (bI (suI s 1) 1431655765))) 858993459) + (bI (suI (wr (s - (bI (suI s 1) 1431655765))) 2) 858993459))) + (suI (wr ((bI (wr (s - (bI (suI s 1) 1431655765))) 858993459) + (bI (suI (wr (s - (bI (suI s 1) 1431655765))) 2) 858993459))) 4))) 252645135) + (suI (bI (wr ((wr ((bI (wr (s - (bI (suI s 1) 1431655765))) 858993459) + (bI (suI (wr (s - (bI (suI s 1) 1431655765))) 2) 858993459))) + (suI (wr ((bI (wr (s - (bI (suI s 1) 1431655765))) 858993459) + (bI (suI (wr (s - (bI (suI s 1) 1431655765))) 2) 858993459))) 4))) 252645135) 8))) + (suI (wr ((bI (wr ((wr ((bI (wr (s - (bI (suI s 1) 1431655765))) 858993459) + (bI (suI (wr (s - (bI (suI s 1) 1431655765))) 2) 858993459))) + (suI (wr ((bI (wr (s - (bI (suI s 1) 1431655765))) 858993459) + (bI (suI (wr (s - (bI (suI s 1) 1431655765))) 2) 858993459))) 4))) 252645135) + (suI (bI (wr ((wr ((bI (wr (s - (bI (suI s 1) 1431655765))) 858993459) + (bI (suI (wr (s - (bI (suI s 1) 1431655765))) 2) 858993459))) + (suI (wr ((bI (wr (s - (bI (suI s 1) 1431655765))) 858993459) + (bI (suI (wr (s - (bI (suI s 1) 1431655765))) 2) 858993459))) 4))) 252645135) 8))) 16))) 63) : Int) = (wr (Int.tdiv v0 2)))) => ?_⟩
      ·
        have n16 : (wr (s + 1)) = s + 1 := wr_id (show -2147483648 ≤ (s + 1 : Int) ∧ (s + 1 : Int) < 2147483648 from by omega)
        exact ih b le (wr (s + 1))  (show (0 : Int) ≤ (wr (s + 1)) from by first | with_reducible assumption | omega | (simp only [wr, wl] at *; omega)) (show ((wr (s + 1)) : Int) ≤ 4096 from by first | with_reducible assumption | omega | (simp only [wr, wl] at *; omega)) (show (4096 - (wr (s + 1))).toNat < mz from by omega)
      ·
        refine c_sums  hF hR (fun vr17 hr18 => ?_)
        have hr18 : -2147483648 ≤ vr17 ∧ vr17 < 2147483648 := hr18
        refine ⟨fun (c19 : ((le : Int) ≤ vr17)) => ?_, fun (c19 : (¬ ((le : Int) ≤ vr17))) => ?_⟩
        ·
          have n20 : (wr (s + 1)) = s + 1 := wr_id (show -2147483648 ≤ (s + 1 : Int) ∧ (s + 1 : Int) < 2147483648 from by omega)
          exact ih b le (wr (s + 1))  (show (0 : Int) ≤ (wr (s + 1)) from by first | with_reducible assumption | omega | (simp only [wr, wl] at *; omega)) (show ((wr (s + 1)) : Int) ≤ 4096 from by first | with_reducible assumption | omega | (simp only [wr, wl] at *; omega)) (show (4096 - (wr (s + 1))).toNat < mz from by omega)
        ·
          refine c_sums  hF hR (fun vr21 hr22 => ?_)
          have hr22 : -2147483648 ≤ vr21 ∧ vr21 < 2147483648 := hr22
          have n23 : (wr (s + 1)) = s + 1 := wr_id (show -2147483648 ≤ (s + 1 : Int) ∧ (s + 1 : Int) < 2147483648 from by omega)
          exact ih s vr21 (wr (s + 1))  (show (0 : Int) ≤ (wr (s + 1)) from by first | with_reducible assumption | omega | (simp only [wr, wl] at *; omega)) (show ((wr (s + 1)) : Int) ≤ 4096 from by first | with_reducible assumption | omega | (simp only [wr, wl] at *; omega)) (show (4096 - (wr (s + 1))).toNat < mz from by omega)
theorem c_drift (hF : FS F) (hR : Rg I) {v0 : Int}  (hQ : ∀ (r : Int) (I' : pI), Rg I' → AR I' → iR r → (∀ k j, ¬ (k = 203) → I' k j = I k j) → Q (some (vi r)) F I') : CallN G (d + 2) kX11_drift [vr 0, vi v0] NP F I Q := by
  refine CallN_in (fun hok hA => CallN_out ?_)
  have iv0 : -2147483648 ≤ v0 ∧ v0 < 2147483648 := hok (vi v0) (by simp)
  refine Call_wp (lv := [some (vr 0), some (vi v0), none, none, none]) (by decide) ckX11_drift [25] rfl rfl ?_
  refine s_X11_within (fun (w1 : ((2 : Int) ≤ v0 ∧ (v0 : Int) ≤ 12)) => ?_) (fun (w1 : ¬ ((2 : Int) ≤ v0 ∧ (v0 : Int) ≤ 12)) => ?_)
  ·
    refine ⟨fun _ => ?_, fun c => absurd c (show (¬ (1 : Int) = 0) from by decide)⟩
    refine c_drift_l hF hR (by omega) (fun r hv hA' => hQ _ _ hR hA' (hv _ rfl) (fun _ _ _ => rfl)) _ 0 2000000000 0  (show (0 : Int) ≤ (0 : Int) from Int.le_refl _) (show ((0 : Int) : Int) ≤ 4096 from by first | with_reducible assumption | omega | (simp only [wr, wl] at *; omega)) (Nat.lt_succ_self _)
  ·
    refine ⟨fun c => absurd (show ((0 : Int) = 0) from by decide) c, fun _ => ?_⟩
    refine ⟨⟨_, rfl, (by decide)⟩, ?_⟩
    refine s_X11_refuse hF (e := 1) (by decide) ?_
    exact ⟨rfl, fun hv hA' => hQ _ _ (Rg.u hR (Pr_f rfl)) hA' (hv _ rfl) (fun ka ja hk => (uI_o (show ¬ (ka = 203 ∧ ja = 1) from by first | (intro e; obtain ⟨rfl, rfl⟩ := e; exact hk (by decide)) | omega)))⟩
theorem c_voice (hF : FS F) (hR : Rg I) {v0 v1 v2 : Int}  (hQ : ∀ (r : Int) (I' : pI), Rg I' → AR I' → iR r → (∀ k j, ¬ (k = 203 ∨ (205 ≤ k ∧ k < 208)) → I' k j = I k j) → Q (some (vi r)) F I') : CallN G (d + 402) kX11_voice [vr 0, vi v0, vi v1, vi v2] NP F I Q := by
  refine CallN_in (fun hok hA => CallN_out ?_)
  have iv0 : -2147483648 ≤ v0 ∧ v0 < 2147483648 := hok (vi v0) (by simp)
  have iv1 : -2147483648 ≤ v1 ∧ v1 < 2147483648 := hok (vi v1) (by simp)
  have iv2 : -2147483648 ≤ v2 ∧ v2 < 2147483648 := hok (vi v2) (by simp)
  refine Call_wp (lv := [some (vr 0), some (vi v0), some (vi v1), some (vi v2), none, none]) (by decide) ckX11_voice [] rfl rfl ?_
  refine ⟨_, rfl, (by decide), ?_⟩
  refine fun w0 hw0 => ?_; obtain rfl : w0 = some 1 := hw0.symm.trans (FS.g hF rfl)
  refine ⟨⟨_, rfl, (by decide)⟩, ?_⟩
  refine s_X8_pieceAt hF (S := 1) (Or.inl rfl) (fun (w1 : (0 ≤ v0 ∧ v0 < (I 1 1) ∧ v0 < 14)) => ?_) (fun (w1 : ¬ (0 ≤ v0 ∧ v0 < (I 1 1) ∧ v0 < 14)) => ?_)
  ·
    have hp2 : PP F (1 + 19 + 5 * Int.toNat v0) := PP_of hF (by omega)
    refine s_X11_within (fun (w3 : ((0 : Int) ≤ v1 ∧ (v1 : Int) ≤ 3)) => ?_) (fun (w3 : ¬ ((0 : Int) ≤ v1 ∧ (v1 : Int) ≤ 3)) => ?_)
    ·
      refine ⟨fun _ => ?_, fun c => absurd c (show (¬ (1 : Int) = 0) from by decide)⟩
      refine ⟨_, rfl, (by decide), ?_⟩
      refine fun w0 hw0 => ?_; obtain rfl : w0 = some 205 := hw0.symm.trans (FS.g hF rfl)
      refine ⟨⟨_, rfl, (by decide)⟩, ?_⟩
      refine c_ask (v0 := v0) (v1 := v1) (v2 := v2) hF hR hp2 (fun vr4 I5 hR6 hA7 hr9 hW8 => ?_)
      have hr9 : -2147483648 ≤ vr4 ∧ vr4 < 2147483648 := hr9
      refine ⟨_, rfl, (by decide), ?_⟩
      refine fun w0 hw0 => ?_; obtain rfl : w0 = some 205 := hw0.symm.trans (FS.g hF rfl)
      refine ⟨_, rfl, (by decide), ?_⟩
      have a10 : -2147483648 ≤ (I5 205 7) ∧ (I5 205 7) < 2147483648 := hA7.1 _ _
      refine ⟨fun (c11 : (((I5 205 7) : Int) = 0)) => ?_, fun (c11 : (¬ (((I5 205 7) : Int) = 0))) => ?_⟩
      ·
        exact ⟨rfl, fun hv hA' => hQ _ _ hR6 hA' (hv _ rfl) (fun ka ja hk => (hW8 ka ja (by omega)))⟩
      ·
        refine ⟨⟨_, rfl, (by decide)⟩, ?_⟩
        refine s_X11_refuse hF (e := 6) (by decide) ?_
        have u12 : (I5 203 6) = (I 203 6) := hW8 _ _ (by first | decide | omega)
        have a13 : -2147483648 ≤ (I 203 6) ∧ (I 203 6) < 2147483648 := hA.1 _ _
        have a14 : -2147483648 ≤ (I5 203 6) ∧ (I5 203 6) < 2147483648 := hA7.1 _ _
        exact ⟨rfl, fun hv hA' => hQ _ _ (Rg.u hR6 (Pr_f rfl)) hA' (hv _ rfl) (fun ka ja hk => ((uI_o (show ¬ (ka = 203 ∧ ja = 6) from by first | (intro e; obtain ⟨rfl, rfl⟩ := e; exact hk (by decide)) | omega))).trans ((hW8 ka ja (by omega))))⟩
    ·
      refine ⟨fun c => absurd (show ((0 : Int) = 0) from by decide) c, fun _ => ?_⟩
      refine ⟨⟨_, rfl, (by decide)⟩, ?_⟩
      refine s_X11_refuse hF (e := 1) (by decide) ?_
      exact ⟨rfl, fun hv hA' => hQ _ _ (Rg.u hR (Pr_f rfl)) hA' (hv _ rfl) (fun ka ja hk => (uI_o (show ¬ (ka = 203 ∧ ja = 1) from by first | (intro e; obtain ⟨rfl, rfl⟩ := e; exact hk (by decide)) | omega)))⟩
  ·
    refine ⟨⟨_, rfl, (by decide)⟩, ?_⟩
    refine s_X11_refuse hF (e := 1) (by decide) ?_
    exact ⟨rfl, fun hv hA' => hQ _ _ (Rg.u hR (Pr_f rfl)) hA' (hv _ rfl) (fun ka ja hk => (uI_o (show ¬ (ka = 203 ∧ ja = 1) from by first | (intro e; obtain ⟨rfl, rfl⟩ := e; exact hk (by decide)) | omega)))⟩
theorem c_body (hF : FS F) (hR : Rg I) {v0 : Int}  (hQ : ∀ (r : Int) (I' : pI), Rg I' → AR I' → iR r → (∀ k j, ¬ (k = 203) → I' k j = I k j) → Q (some (vi r)) F I') : CallN G (d + 2) kX11_body [vr 0, vi v0] NP F I Q := by
  refine CallN_in (fun hok hA => CallN_out ?_)
  have iv0 : -2147483648 ≤ v0 ∧ v0 < 2147483648 := hok (vi v0) (by simp)
  refine Call_wp (lv := [some (vr 0), some (vi v0)]) (by decide) ckX11_body [] rfl rfl ?_
  refine ⟨_, rfl, (by decide), ?_⟩
  refine fun w0 hw0 => ?_; obtain rfl : w0 = some 205 := hw0.symm.trans (FS.g hF rfl)
  refine ⟨_, rfl, (by decide), ?_⟩
  have a1 : -2147483648 ≤ (I 205 3) ∧ (I 205 3) < 2147483648 := hA.1 _ _
  have n2 : -2147483648 ≤ (wr ((I 205 3) - 1)) ∧ (wr ((I 205 3) - 1)) < 2147483648 := wr_R _
  refine s_X11_within (fun (w3 : ((0 : Int) ≤ v0 ∧ (v0 : Int) ≤ (wr ((I 205 3) - 1)))) => ?_) (fun (w3 : ¬ ((0 : Int) ≤ v0 ∧ (v0 : Int) ≤ (wr ((I 205 3) - 1)))) => ?_)
  ·
    refine ⟨fun c => absurd c (show (¬ ((1 : Int) = 0)) from by decide), fun _ => ?_⟩
    refine ⟨_, rfl, (by decide), ?_⟩
    refine fun w0 hw0 => ?_; obtain rfl : w0 = some 205 := hw0.symm.trans (FS.g hF rfl)
    refine ⟨⟨_, rfl, (by decide)⟩, ?_⟩
    refine Call_wp (lv := [some (vr 205), some (vi v0)]) (by decide) ckX10_bodyAt [] rfl rfl ?_
    refine ⟨fun c => absurd c (show (¬ ((v0 : Int) < 0)) from by first | omega | (simp only [wr, wl] at *; omega)), fun _ => ?_⟩
    refine ⟨_, rfl, (by decide), ?_⟩
    refine ⟨fun (c4 : (((I 205 3) : Int) ≤ v0)) => ?_, fun (c4 : (¬ (((I 205 3) : Int) ≤ v0))) => ?_⟩
    ·
      refine ⟨rfl, ?_⟩
      exact ⟨rfl, fun hv hA' => hQ _ _ hR hA' (hv _ rfl) (fun _ _ _ => rfl)⟩
    ·
      refine ⟨fun (c5 : ((30 : Int) ≤ v0)) => ?_, fun (c5 : (¬ ((30 : Int) ≤ v0))) => ?_⟩
      ·
        refine ⟨rfl, ?_⟩
        exact ⟨rfl, fun hv hA' => hQ _ _ hR hA' (hv _ rfl) (fun _ _ _ => rfl)⟩
      ·
        refine ⟨_, rfl, (by decide), ?_⟩
        refine fun w0 hw0 => ?_; obtain rfl : w0 = some 207 := hw0.symm.trans (FS.g hF rfl)
        refine ⟨_, rfl, (by decide), (show (0 : Int) ≤ v0 from by first | with_reducible assumption | omega | (simp only [wr, wl] at *; omega)), (show v0 < (30 : Int) from by first | with_reducible assumption | omega | (simp only [wr, wl] at *; omega)), ?_⟩
        refine ⟨rfl, ?_⟩
        exact ⟨rfl, fun hv hA' => hQ _ _ hR hA' (hv _ rfl) (fun _ _ _ => rfl)⟩
  ·
    refine ⟨fun _ => ?_, fun c => absurd (show ((0 : Int) = 0) from by decide) c⟩
    refine ⟨⟨_, rfl, (by decide)⟩, ?_⟩
    refine s_X11_refuse hF (e := 2) (by decide) ?_
    exact ⟨rfl, fun hv hA' => hQ _ _ (Rg.u hR (Pr_f rfl)) hA' (hv _ rfl) (fun ka ja hk => (uI_o (show ¬ (ka = 203 ∧ ja = 2) from by first | (intro e; obtain ⟨rfl, rfl⟩ := e; exact hk (by decide)) | omega)))⟩
/-- the rows of a state, but those of its pieces and programs, copied -/
def CP (S T : Nat) (J I : pI) : Prop := (∀ j, j < 5 → J (S + 3) j = I (T + 3) j) ∧ (∀ j, j < 64 → J (S + 4) j = I (T + 4) j) ∧ (∀ j, j < 4 → J (S + 5) j = I (T + 5) j) ∧ (∀ j, j < 6 → J (S + 7) j = I (T + 7) j) ∧ (∀ j, j < 6 → J (S + 8) j = I (T + 8) j) ∧ (∀ j, j < 6 → J (S + 9) j = I (T + 9) j) ∧ (∀ j, j < 6 → J (S + 10) j = I (T + 10) j) ∧ (∀ j, j < 20 → J (S + 12) j = I (T + 12) j) ∧ (∀ j, j < 20 → J (S + 13) j = I (T + 13) j) ∧ (∀ j, j < 20 → J (S + 14) j = I (T + 14) j) ∧ (∀ j, j < 20 → J (S + 15) j = I (T + 15) j) ∧ (∀ j, j < 20 → J (S + 16) j = I (T + 16) j) ∧ (∀ j, j < 20 → J (S + 17) j = I (T + 17) j) ∧ (∀ j, j < 48 → J (S + 18) j = I (T + 18) j)
theorem cI_hit {I : pI} {q p n j : Nat} (h : j < n) : cI I q 0 p 0 n p j = I q j := by
  unfold cI
  rw [if_pos ⟨rfl, Nat.zero_le _, by omega⟩]
  congr 1; omega
theorem c_tell (hF : FS F) (hR : Rg I) {v0 : Int}  (hQ : ∀ (r : Int) (I' : pI), Rg I' → AR I' → iR r → (∀ k j, ¬ (k = 203 ∨ k = 19 ∨ (k = 1 ∧ (j = 11))) → I' k j = I k j) → Q (some (vi r)) F I') : CallN G (d + 2) kX11_tell [vr 0, vi v0] NP F I Q := by
  refine CallN_in (fun hok hA => CallN_out ?_)
  have iv0 : -2147483648 ≤ v0 ∧ v0 < 2147483648 := hok (vi v0) (by simp)
  refine Call_wp (lv := [some (vr 0), some (vi v0)]) (by decide) ckX11_tell [] rfl rfl ?_
  refine ⟨_, rfl, (by decide), ?_⟩
  refine fun w0 hw0 => ?_; obtain rfl : w0 = some 1 := hw0.symm.trans (FS.g hF rfl)
  refine ⟨⟨_, rfl, (by decide)⟩, ?_⟩
  refine Call_wp (lv := [some (vr 1), some (vi v0)]) (by decide) ckX8_addWaiting [] rfl rfl ?_
  refine ⟨_, rfl, (by decide), ?_⟩
  have a1 : -2147483648 ≤ (I 1 11) ∧ (I 1 11) < 2147483648 := hA.1 _ _
  refine ⟨fun (c2 : (((I 1 11) : Int) < 0)) => ?_, fun (c2 : (¬ (((I 1 11) : Int) < 0))) => ?_⟩
  ·
    refine ⟨rfl, (by decide), ?_⟩
    refine ⟨fun _ => ?_, fun c => absurd (show ((0 : Int) = 0) from by decide) c⟩
    refine ⟨⟨_, rfl, (by decide)⟩, ?_⟩
    refine s_X11_refuse hF (e := 4) (by decide) ?_
    exact ⟨rfl, fun hv hA' => hQ _ _ (Rg.u hR (Pr_f rfl)) hA' (hv _ rfl) (fun ka ja hk => (uI_o (show ¬ (ka = 203 ∧ ja = 4) from by first | (intro e; obtain ⟨rfl, rfl⟩ := e; exact hk (by decide)) | omega)))⟩
  ·
    refine ⟨_, rfl, (by decide), ?_⟩
    refine ⟨fun (c3 : (((I 1 11) : Int) < 48)) => ?_, fun (c3 : (¬ (((I 1 11) : Int) < 48))) => ?_⟩
    ·
      refine ⟨_, rfl, (by decide), ?_⟩
      refine fun w0 hw0 => ?_; obtain rfl : w0 = some 19 := hw0.symm.trans (FS.g hF rfl)
      refine ⟨_, rfl, (by decide), ?_⟩
      refine ⟨_, rfl, (by decide), (show (0 : Int) ≤ (I 1 11) from by first | with_reducible assumption | omega | (simp only [wr, wl] at *; omega)), (show (I 1 11) < (48 : Int) from by first | with_reducible assumption | omega | (simp only [wr, wl] at *; omega)), ?_⟩
      refine ⟨_, rfl, (by decide), ?_⟩
      refine ⟨_, rfl, (by decide), ?_⟩
      refine ⟨rfl, (by decide), ?_⟩
      refine ⟨fun c => absurd c (show (¬ ((1 : Int) = 0)) from by decide), fun _ => ?_⟩
      refine ⟨_, rfl, (by decide), ?_⟩
      refine fun w0 hw0 => ?_; obtain rfl : w0 = some 1 := hw0.symm.trans (FS.g hF rfl)
      refine ⟨_, rfl, (by decide), ?_⟩
      exact ⟨rfl, fun hv hA' => hQ _ _ (Rg.u (Rg.u hR (Pr_p (k := 19) rfl _ _)) (Pr_f rfl)) hA' (hv _ rfl) (fun ka ja hk => ((uI_o (show ¬ (ka = 1 ∧ ja = 11) from by first | (intro e; obtain ⟨rfl, rfl⟩ := e; exact hk (by decide)) | omega))).trans ((uI_o (show ¬ (ka = 19 ∧ ja = (Int.toNat (I 1 11))) from by first | (intro e; obtain ⟨rfl, _⟩ := e; exact hk (by decide)) | omega))))⟩
    ·
      refine ⟨rfl, (by decide), ?_⟩
      refine ⟨fun _ => ?_, fun c => absurd (show ((0 : Int) = 0) from by decide) c⟩
      refine ⟨⟨_, rfl, (by decide)⟩, ?_⟩
      refine s_X11_refuse hF (e := 4) (by decide) ?_
      exact ⟨rfl, fun hv hA' => hQ _ _ (Rg.u hR (Pr_f rfl)) hA' (hv _ rfl) (fun ka ja hk => (uI_o (show ¬ (ka = 203 ∧ ja = 4) from by first | (intro e; obtain ⟨rfl, rfl⟩ := e; exact hk (by decide)) | omega)))⟩
theorem c_unlike_l (hF : FS F) (hR : Rg I) {v0 : Int}  (hQ : ∀ (r : Int) , Q (some (vi r)) F I) : ∀ (mz : Nat) (mo i : Int) , ((0 : Int) ≤ i) → (mo - i).toNat < mz → GoN G (d + 2) kX11_firstUnlike NP NP 14 [some (vr 0), some (vi v0), some (vr 210), some (vi mo), some (vi i)] [] F I Q := by
  intro mz
  induction mz with
  | zero => intro mo i _ h; exact absurd h (Nat.not_lt_zero _)
  | succ mz ih =>
    intro mo i c100 hm
    refine GoN_in (fun hok hA => ?_)
    have iiv0 : -2147483648 ≤ v0 ∧ v0 < 2147483648 := hok 1 _ rfl
    have iimo : -2147483648 ≤ mo ∧ mo < 2147483648 := hok 3 _ rfl
    have iii : -2147483648 ≤ i ∧ i < 2147483648 := hok 4 _ rfl
    refine Go_wp (by decide) ckX11_firstUnlike [14] ?_
    refine ⟨fun (c1 : ((mo : Int) ≤ i)) => ?_, fun (c1 : (¬ ((mo : Int) ≤ i))) => ?_⟩
    ·
      exact ⟨rfl, hQ _⟩
    ·
      refine ⟨fun (c2 : ((v0 : Int) ≤ i)) => ?_, fun (c2 : (¬ ((v0 : Int) ≤ i))) => ?_⟩
      ·
        exact ⟨rfl, hQ _⟩
      ·
        refine ⟨_, rfl, (by decide), ?_⟩
        have a3 : -2147483648 ≤ (I 210 2) ∧ (I 210 2) < 2147483648 := hA.1 _ _
        have n4 : -2147483648 ≤ (wr (2 * (I 210 2))) ∧ (wr (2 * (I 210 2))) < 2147483648 := wr_R _
        refine ⟨fun (c5 : (((wr (2 * (I 210 2))) : Int) ≤ i)) => ?_, fun (c5 : (¬ (((wr (2 * (I 210 2))) : Int) ≤ i))) => ?_⟩
        ·
          exact ⟨rfl, hQ _⟩
        ·
          refine ⟨_, rfl, (by decide), ?_⟩
          refine fun w0 hw0 => ?_; obtain rfl : w0 = some 1 := hw0.symm.trans (FS.g hF rfl)
          refine ⟨⟨_, rfl, (by decide)⟩, ?_⟩
          refine Call_wp (lv := [some (vr 1), some (vi i)]) (by decide) ckX8_waitingAt [] rfl rfl ?_
          refine ⟨fun c => absurd c (show (¬ ((i : Int) < 0)) from by first | omega | (simp only [wr, wl] at *; omega)), fun _ => ?_⟩
          refine ⟨fun (c6 : ((48 : Int) ≤ i)) => ?_, fun (c6 : (¬ ((48 : Int) ≤ i))) => ?_⟩
          ·
            refine ⟨rfl, ?_⟩
            refine ⟨⟨_, rfl, (by decide)⟩, ?_⟩
            refine c_flatAt (v0 := i) hF hR (RP_m hF) (fun vr7 hr8 => ?_)
            have hr8 : -2147483648 ≤ vr7 ∧ vr7 < 2147483648 := hr8
            refine ⟨fun (c9 : ((0 : Int) = vr7)) => ?_, fun (c9 : (¬ ((0 : Int) = vr7))) => ?_⟩
            ·
              have n10 : (wr (i + 1)) = i + 1 := wr_id (show -2147483648 ≤ (i + 1 : Int) ∧ (i + 1 : Int) < 2147483648 from by omega)
              exact ih mo (wr (i + 1))  (show (0 : Int) ≤ (wr (i + 1)) from by first | with_reducible assumption | omega | (simp only [wr, wl] at *; omega)) (show (mo - (wr (i + 1))).toNat < mz from by omega)
            ·
              exact ⟨rfl, hQ _⟩
          ·
            refine ⟨_, rfl, (by decide), ?_⟩
            refine fun w0 hw0 => ?_; obtain rfl : w0 = some 19 := hw0.symm.trans (FS.g hF rfl)
            refine ⟨_, rfl, (by decide), (show (0 : Int) ≤ i from by first | with_reducible assumption | omega | (simp only [wr, wl] at *; omega)), (show i < (48 : Int) from by first | with_reducible assumption | omega | (simp only [wr, wl] at *; omega)), ?_⟩
            refine ⟨rfl, ?_⟩
            refine ⟨⟨_, rfl, (by decide)⟩, ?_⟩
            refine c_flatAt (v0 := i) hF hR (RP_m hF) (fun vr11 hr12 => ?_)
            have hr12 : -2147483648 ≤ vr11 ∧ vr11 < 2147483648 := hr12
            have a13 : -2147483648 ≤ (I 19 (Int.toNat i)) ∧ (I 19 (Int.toNat i)) < 2147483648 := hA.1 _ _
            refine ⟨fun (c14 : (((I 19 (Int.toNat i)) : Int) = vr11)) => ?_, fun (c14 : (¬ (((I 19 (Int.toNat i)) : Int) = vr11))) => ?_⟩
            ·
              have n15 : (wr (i + 1)) = i + 1 := wr_id (show -2147483648 ≤ (i + 1 : Int) ∧ (i + 1 : Int) < 2147483648 from by omega)
              exact ih mo (wr (i + 1))  (show (0 : Int) ≤ (wr (i + 1)) from by first | with_reducible assumption | omega | (simp only [wr, wl] at *; omega)) (show (mo - (wr (i + 1))).toNat < mz from by omega)
            ·
              exact ⟨rfl, hQ _⟩
theorem c_unlike (hF : FS F) (hR : Rg I) {v0 : Int}  (hQ : ∀ r : Int, iR r → Q (some (vi r)) F I) : CallN G (d + 2) kX11_firstUnlike [vr 0, vi v0, vr 210] NP F I Q := by
  refine CallN_in (fun hok hA => CallN_out ?_)
  have iv0 : -2147483648 ≤ v0 ∧ v0 < 2147483648 := hok (vi v0) (by simp)
  refine Call_wp (lv := [some (vr 0), some (vi v0), some (vr 210), none, none]) (by decide) ckX11_firstUnlike [14] rfl rfl ?_
  refine ⟨_, rfl, (by decide), ?_⟩
  have a1 : -2147483648 ≤ (I 210 2) ∧ (I 210 2) < 2147483648 := hA.1 _ _
  have n2 : -2147483648 ≤ (wr (2 * (I 210 2))) ∧ (wr (2 * (I 210 2))) < 2147483648 := wr_R _
  refine j_max (fun w3 h4 h5 h6 => ?_)
  refine c_unlike_l hF hR  (fun r hv hA' => hQ _ (hv _ rfl)) _ w3 0  (show (0 : Int) ≤ (0 : Int) from Int.le_refl _) (Nat.lt_succ_self _)
theorem c_check (hF : FS F) (hR : Rg I) {v0 v1 : Int}  (hQ : ∀ (r : Int) (F' : pF) (I' : pI), FS F' → Rg I' → AR I' → iR r → (∀ k j, ¬ (k = 203 ∨ (208 ≤ k ∧ k < 218) ∨ (k = 1 ∧ (j = 11))) → I' k j = I k j) → Q (some (vi r)) F' I') : CallN G (d + 7) kX11_check [vr 0, vi v0, vi v1] NP F I Q := by
  refine CallN_in (fun hok hA => CallN_out ?_)
  have iv0 : -2147483648 ≤ v0 ∧ v0 < 2147483648 := hok (vi v0) (by simp)
  have iv1 : -2147483648 ≤ v1 ∧ v1 < 2147483648 := hok (vi v1) (by simp)
  refine Call_wp (lv := [some (vr 0), some (vi v0), some (vi v1), none, none, none]) (by decide) ckX11_check [] rfl rfl ?_
  refine ⟨_, rfl, (by decide), ?_⟩
  refine fun w0 hw0 => ?_; obtain rfl : w0 = some 1 := hw0.symm.trans (FS.g hF rfl)
  refine ⟨_, rfl, (by decide), ?_⟩
  refine ⟨_, rfl, (by decide), ?_⟩
  refine fun w0 hw0 => ?_; obtain rfl : w0 = some 1 := hw0.symm.trans (FS.g hF rfl)
  refine ⟨_, rfl, (by decide), ?_⟩
  refine ⟨_, rfl, (by decide), ?_⟩
  refine fun w0 hw0 => ?_; obtain rfl : w0 = some 1 := hw0.symm.trans (FS.g hF rfl)
  refine ⟨⟨_, rfl, (by decide)⟩, ?_⟩
  refine s_X8_programAt hF (S := 1) (Or.inl rfl) (fun (w1 : (0 ≤ v0 ∧ v0 < 4)) => ?_) (fun (w1 : ¬ (0 ≤ v0 ∧ v0 < 4)) => ?_)
  ·
    have hp2 : GP F (1 + 89 + 3 * Int.toNat v0) := GP_of hF (by omega)
    refine ⟨_, rfl, (by decide), ?_⟩
    refine fun w0 hw0 => ?_; obtain rfl : w0 = some 1 := hw0.symm.trans (FS.g hF rfl)
    refine ⟨⟨_, rfl, (by decide)⟩, ?_⟩
    refine s_X8_pieceAt hF (S := 1) (Or.inl rfl) (fun (w3 : (0 ≤ v1 ∧ v1 < (I 1 1) ∧ v1 < 14)) => ?_) (fun (w3 : ¬ (0 ≤ v1 ∧ v1 < (I 1 1) ∧ v1 < 14)) => ?_)
    ·
      have hp4 : PP F (1 + 19 + 5 * Int.toNat v1) := PP_of hF (by omega)
      refine ⟨_, hp2.1.1, (by have := hp2.2; show _ < 254; omega), ?_⟩
      have r5 : 0 ≤ (I (1 + 89 + 3 * Int.toNat v0) 0) ∧ (I (1 + 89 + 3 * Int.toNat v0) 0) ≤ 1 := hR.b hp2.1.1 (by have := hp2.2; omega) ⟨by decide, by decide⟩
      have u6 : ((uI I 1 11 0) (1 + 89 + 3 * Int.toNat v0) 0) = (I (1 + 89 + 3 * Int.toNat v0) 0) := uI_o (fun e => absurd e.1 (lay_ne hp2.1.1 (show lay 1 = (8, 12) from rfl) (by decide)))
      refine ⟨fun (c8 : (¬ (((uI I 1 11 0) (1 + 89 + 3 * Int.toNat v0) 0) : Int) = 0)) => ?_, fun (c8 : ((((uI I 1 11 0) (1 + 89 + 3 * Int.toNat v0) 0) : Int) = 0)) => ?_⟩
      ·
        refine ⟨_, rfl, (by decide), ?_⟩
        refine fun w0 hw0 => ?_; obtain rfl : w0 = some 208 := hw0.symm.trans (FS.g hF rfl)
        refine ⟨_, rfl, (by decide), ?_⟩
        refine fun w0 hw0 => ?_; obtain rfl : w0 = some 1 := hw0.symm.trans (FS.g hF rfl)
        refine ⟨⟨_, rfl, (by decide)⟩, ?_⟩
        refine c_perf  hF (Rg.u hR (Pr_f rfl)) hp4 hp2 (by omega) (fun I9 hR10 hA11 hW12 => ?_)
        refine ⟨_, rfl, (by decide), ?_⟩
        refine fun w0 hw0 => ?_; obtain rfl : w0 = some 208 := hw0.symm.trans (FS.g (FS.u hF rfl) rfl)
        refine ⟨_, rfl, (by decide), ?_⟩
        refine fun w0 hw0 => ?_; obtain rfl : w0 = some 210 := hw0.symm.trans (FS.g (FS.u hF rfl) rfl)
        refine ⟨⟨_, rfl, (by decide)⟩, ?_⟩
        have a13 : -2147483648 ≤ (I 1 11) ∧ (I 1 11) < 2147483648 := hA.1 _ _
        refine c_unlike  (FS.u hF rfl) hR10 (fun vr14 hr15 => ?_)
        have hr15 : -2147483648 ≤ vr14 ∧ vr14 < 2147483648 := hr15
        exact ⟨rfl, fun hv hA' => hQ _ _ _ (FS.u hF rfl) hR10 hA' (hv _ rfl) (fun ka ja hk => ((hW12 ka ja (by omega))).trans ((uI_o (show ¬ (ka = 1 ∧ ja = 11) from by first | (intro e; obtain ⟨rfl, rfl⟩ := e; exact hk (by decide)) | omega))))⟩
      ·
        refine ⟨⟨_, rfl, (by decide)⟩, ?_⟩
        refine s_X11_refuse hF (e := 2) (by decide) ?_
        exact ⟨rfl, fun hv hA' => hQ _ _ _ hF (Rg.u (Rg.u hR (Pr_f rfl)) (Pr_f rfl)) hA' (hv _ rfl) (fun ka ja hk => ((uI_o (show ¬ (ka = 203 ∧ ja = 2) from by first | (intro e; obtain ⟨rfl, rfl⟩ := e; exact hk (by decide)) | omega))).trans ((uI_o (show ¬ (ka = 1 ∧ ja = 11) from by first | (intro e; obtain ⟨rfl, rfl⟩ := e; exact hk (by decide)) | omega))))⟩
    ·
      refine ⟨⟨_, rfl, (by decide)⟩, ?_⟩
      refine s_X11_refuse hF (e := 1) (by decide) ?_
      exact ⟨rfl, fun hv hA' => hQ _ _ _ hF (Rg.u (Rg.u hR (Pr_f rfl)) (Pr_f rfl)) hA' (hv _ rfl) (fun ka ja hk => ((uI_o (show ¬ (ka = 203 ∧ ja = 1) from by first | (intro e; obtain ⟨rfl, rfl⟩ := e; exact hk (by decide)) | omega))).trans ((uI_o (show ¬ (ka = 1 ∧ ja = 11) from by first | (intro e; obtain ⟨rfl, rfl⟩ := e; exact hk (by decide)) | omega))))⟩
  ·
    refine ⟨_, rfl, (by decide), ?_⟩
    refine fun w0 hw0 => ?_; obtain rfl : w0 = some 1 := hw0.symm.trans (FS.g hF rfl)
    refine ⟨⟨_, rfl, (by decide)⟩, ?_⟩
    refine s_X8_pieceAt hF (S := 1) (Or.inl rfl) (fun (w16 : (0 ≤ v1 ∧ v1 < (I 1 1) ∧ v1 < 14)) => ?_) (fun (w16 : ¬ (0 ≤ v1 ∧ v1 < (I 1 1) ∧ v1 < 14)) => ?_)
    ·
      have hp17 : PP F (1 + 19 + 5 * Int.toNat v1) := PP_of hF (by omega)
      refine ⟨⟨_, rfl, (by decide)⟩, ?_⟩
      refine s_X11_refuse hF (e := 1) (by decide) ?_
      exact ⟨rfl, fun hv hA' => hQ _ _ _ hF (Rg.u (Rg.u hR (Pr_f rfl)) (Pr_f rfl)) hA' (hv _ rfl) (fun ka ja hk => ((uI_o (show ¬ (ka = 203 ∧ ja = 1) from by first | (intro e; obtain ⟨rfl, rfl⟩ := e; exact hk (by decide)) | omega))).trans ((uI_o (show ¬ (ka = 1 ∧ ja = 11) from by first | (intro e; obtain ⟨rfl, rfl⟩ := e; exact hk (by decide)) | omega))))⟩
    ·
      refine ⟨⟨_, rfl, (by decide)⟩, ?_⟩
      refine s_X11_refuse hF (e := 1) (by decide) ?_
      exact ⟨rfl, fun hv hA' => hQ _ _ _ hF (Rg.u (Rg.u hR (Pr_f rfl)) (Pr_f rfl)) hA' (hv _ rfl) (fun ka ja hk => ((uI_o (show ¬ (ka = 203 ∧ ja = 1) from by first | (intro e; obtain ⟨rfl, rfl⟩ := e; exact hk (by decide)) | omega))).trans ((uI_o (show ¬ (ka = 1 ∧ ja = 11) from by first | (intro e; obtain ⟨rfl, rfl⟩ := e; exact hk (by decide)) | omega))))⟩
theorem c_there_l (hF : FS F) (hR : Rg I)  (hQ : ∀ (r : Int) , Q (some (vi r)) F I) : ∀ (mz : Nat) (a i : Int) , ((0 : Int) ≤ i) → ((i : Int) ≤ 4) → (4 - i).toNat < mz → GoN G d kX8_programsThere NP NP 4 [some (vr 1), some (vi a), some (vi i)] [] F I Q := by
  intro mz
  induction mz with
  | zero => intro a i _ _ h; exact absurd h (Nat.not_lt_zero _)
  | succ mz ih =>
    intro a i c100 c101 hm
    refine GoN_in (fun hok hA => ?_)
    have iia : -2147483648 ≤ a ∧ a < 2147483648 := hok 1 _ rfl
    have iii : -2147483648 ≤ i ∧ i < 2147483648 := hok 2 _ rfl
    refine Go_wp (by decide) ckX8_programsThere [4] ?_
    refine ⟨fun (c1 : ((4 : Int) ≤ i)) => ?_, fun (c1 : (¬ ((4 : Int) ≤ i))) => ?_⟩
    ·
      exact ⟨rfl, hQ _⟩
    ·
      refine ⟨_, rfl, (by decide), ?_⟩
      refine fun w0 hw0 => ?_; obtain rfl : w0 = some 3 := hw0.symm.trans (FS.g hF rfl)
      refine ⟨_, _, (by decide), rfl, (by decide), (show (0 : Int) ≤ i from by first | with_reducible assumption | omega | (simp only [wr, wl] at *; omega)), (show i < (4 : Int) from by first | with_reducible assumption | omega | (simp only [wr, wl] at *; omega)), ?_⟩
      refine fun w0 hw0 => ?_; obtain rfl : w0 = some (1 + 89 + 3 * Int.toNat i) := hw0.symm.trans (FS_pg hF (S := 1) (i := Int.toNat i) (Or.inl rfl) (by omega))
      refine ⟨_, (GP_of (v := i) hF (by omega)).1.1, (by have := (GP_of (v := i) hF (by omega)).2; show _ < 254; omega), ?_⟩
      have r2 : 0 ≤ (I (1 + 89 + 3 * Int.toNat i) 0) ∧ (I (1 + 89 + 3 * Int.toNat i) 0) ≤ 1 := hR.b (GP_of (v := i) hF (by omega)).1.1 (by have := (GP_of (v := i) hF (by omega)).2; omega) ⟨by decide, by decide⟩
      refine ⟨fun (c4 : (((I (1 + 89 + 3 * Int.toNat i) 0) : Int) = 0)) => ?_, fun (c4 : (¬ (((I (1 + 89 + 3 * Int.toNat i) 0) : Int) = 0))) => ?_⟩
      ·
        have n5 : (wr (a + 0)) = a + 0 := wr_id (show -2147483648 ≤ (a + 0 : Int) ∧ (a + 0 : Int) < 2147483648 from by omega)
        have n6 : (wr (i + 1)) = i + 1 := wr_id (show -2147483648 ≤ (i + 1 : Int) ∧ (i + 1 : Int) < 2147483648 from by omega)
        exact ih (wr (a + 0)) (wr (i + 1))  (show (0 : Int) ≤ (wr (i + 1)) from by first | with_reducible assumption | omega | (simp only [wr, wl] at *; omega)) (show ((wr (i + 1)) : Int) ≤ 4 from by first | with_reducible assumption | omega | (simp only [wr, wl] at *; omega)) (show (4 - (wr (i + 1))).toNat < mz from by omega)
      ·
        have n7 : -2147483648 ≤ (wr (a + 1)) ∧ (wr (a + 1)) < 2147483648 := wr_R _
        have n8 : (wr (i + 1)) = i + 1 := wr_id (show -2147483648 ≤ (i + 1 : Int) ∧ (i + 1 : Int) < 2147483648 from by omega)
        exact ih (wr (a + 1)) (wr (i + 1))  (show (0 : Int) ≤ (wr (i + 1)) from by first | with_reducible assumption | omega | (simp only [wr, wl] at *; omega)) (show ((wr (i + 1)) : Int) ≤ 4 from by first | with_reducible assumption | omega | (simp only [wr, wl] at *; omega)) (show (4 - (wr (i + 1))).toNat < mz from by omega)
theorem c_there (hF : FS F) (hR : Rg I)  (hQ : ∀ r : Int, iR r → Q (some (vi r)) F I) : CallN G d kX8_programsThere [vr 1] NP F I Q := by
  refine CallN_in (fun hok hA => CallN_out ?_)
  refine Call_wp (lv := [some (vr 1), none, none]) (by decide) ckX8_programsThere [4] rfl rfl ?_
  refine c_there_l hF hR  (fun r hv hA' => hQ _ (hv _ rfl)) _ 0 0  (show (0 : Int) ≤ (0 : Int) from Int.le_refl _) (show ((0 : Int) : Int) ≤ 4 from by first | with_reducible assumption | omega | (simp only [wr, wl] at *; omega)) (Nat.lt_succ_self _)
theorem c_all_l (hF : FS F) (hR : Rg I)  (hQ : ∀ (r : Int) , Q (some (vi r)) F I) : ∀ (mz : Nat) (a i : Int) , ((0 : Int) ≤ i) → ((i : Int) ≤ 14) → (14 - i).toNat < mz → GoN G d kX8_readingsOfAll NP NP 4 [some (vr 1), some (vi a), some (vi i)] [] F I Q := by
  intro mz
  induction mz with
  | zero => intro a i _ _ h; exact absurd h (Nat.not_lt_zero _)
  | succ mz ih =>
    intro a i c100 c101 hm
    refine GoN_in (fun hok hA => ?_)
    have iia : -2147483648 ≤ a ∧ a < 2147483648 := hok 1 _ rfl
    have iii : -2147483648 ≤ i ∧ i < 2147483648 := hok 2 _ rfl
    refine Go_wp (by decide) ckX8_readingsOfAll [4] ?_
    refine ⟨_, rfl, (by decide), ?_⟩
    have a1 : -2147483648 ≤ (I 1 1) ∧ (I 1 1) < 2147483648 := hA.1 _ _
    refine ⟨fun (c2 : (((I 1 1) : Int) ≤ i)) => ?_, fun (c2 : (¬ (((I 1 1) : Int) ≤ i))) => ?_⟩
    ·
      exact ⟨rfl, hQ _⟩
    ·
      refine ⟨fun (c3 : ((14 : Int) ≤ i)) => ?_, fun (c3 : (¬ ((14 : Int) ≤ i))) => ?_⟩
      ·
        exact ⟨rfl, hQ _⟩
      ·
        refine ⟨_, rfl, (by decide), ?_⟩
        refine fun w0 hw0 => ?_; obtain rfl : w0 = some 2 := hw0.symm.trans (FS.g hF rfl)
        refine ⟨_, _, (by decide), rfl, (by decide), (show (0 : Int) ≤ i from by first | with_reducible assumption | omega | (simp only [wr, wl] at *; omega)), (show i < (14 : Int) from by first | with_reducible assumption | omega | (simp only [wr, wl] at *; omega)), ?_⟩
        refine fun w0 hw0 => ?_; obtain rfl : w0 = some (1 + 19 + 5 * Int.toNat i) := hw0.symm.trans (FS_pc hF (S := 1) (i := Int.toNat i) (Or.inl rfl) (by omega))
        refine ⟨_, (PP_of (v := i) hF (by omega)).1.1, (by have := (PP_of (v := i) hF (by omega)).2; show _ < 254; omega), ?_⟩
        refine fun w0 hw0 => ?_; obtain rfl : w0 = some ((1 + 19 + 5 * Int.toNat i) + 2) := hw0.symm.trans (PP_of (v := i) hF (by omega)).1.2.2.2.2.1
        refine ⟨_, (PP_of (v := i) hF (by omega)).r.1.1, (by have := (PP_of (v := i) hF (by omega)).r.2; show _ < 254; omega), ?_⟩
        have a4 : -2147483648 ≤ (I ((1 + 19 + 5 * Int.toNat i) + 2) 2) ∧ (I ((1 + 19 + 5 * Int.toNat i) + 2) 2) < 2147483648 := hA.1 _ _
        have n5 : -2147483648 ≤ (wr (a + (I ((1 + 19 + 5 * Int.toNat i) + 2) 2))) ∧ (wr (a + (I ((1 + 19 + 5 * Int.toNat i) + 2) 2))) < 2147483648 := wr_R _
        have n6 : (wr (i + 1)) = i + 1 := wr_id (show -2147483648 ≤ (i + 1 : Int) ∧ (i + 1 : Int) < 2147483648 from by omega)
        exact ih (wr (a + (I ((1 + 19 + 5 * Int.toNat i) + 2) 2))) (wr (i + 1))  (show (0 : Int) ≤ (wr (i + 1)) from by first | with_reducible assumption | omega | (simp only [wr, wl] at *; omega)) (show ((wr (i + 1)) : Int) ≤ 14 from by first | with_reducible assumption | omega | (simp only [wr, wl] at *; omega)) (show (14 - (wr (i + 1))).toNat < mz from by omega)
theorem c_all (hF : FS F) (hR : Rg I)  (hQ : ∀ r : Int, iR r → Q (some (vi r)) F I) : CallN G d kX8_readingsOfAll [vr 1] NP F I Q := by
  refine CallN_in (fun hok hA => CallN_out ?_)
  refine Call_wp (lv := [some (vr 1), none, none]) (by decide) ckX8_readingsOfAll [4] rfl rfl ?_
  refine c_all_l hF hR  (fun r hv hA' => hQ _ (hv _ rfl)) _ 0 0  (show (0 : Int) ≤ (0 : Int) from Int.le_refl _) (show ((0 : Int) : Int) ≤ 14 from by first | with_reducible assumption | omega | (simp only [wr, wl] at *; omega)) (Nat.lt_succ_self _)
theorem c_count (hF : FS F) (hR : Rg I) {v0 : Int}  (hQ : ∀ (r : Int) (I' : pI), Rg I' → AR I' → iR r → (∀ k j, ¬ (k = 203) → I' k j = I k j) → Q (some (vi r)) F I') : CallN G (d + 2) kX11_count [vr 0, vi v0] NP F I Q := by
  refine CallN_in (fun hok hA => CallN_out ?_)
  have iv0 : -2147483648 ≤ v0 ∧ v0 < 2147483648 := hok (vi v0) (by simp)
  refine Call_wp (lv := [some (vr 0), some (vi v0)]) (by decide) ckX11_count [] rfl rfl ?_
  refine ⟨fun (c1 : ((v0 : Int) = 0)) => ?_, fun (c1 : (¬ ((v0 : Int) = 0))) => ?_⟩
  ·
    refine ⟨_, rfl, (by decide), ?_⟩
    refine fun w0 hw0 => ?_; obtain rfl : w0 = some 1 := hw0.symm.trans (FS.g hF rfl)
    refine ⟨⟨_, rfl, (by decide)⟩, ?_⟩
    refine Call_wp (lv := [some (vr 1)]) (by decide) ckX8_pieces [] rfl rfl ?_
    refine ⟨_, rfl, (by decide), ?_⟩
    refine ⟨rfl, ?_⟩
    exact ⟨rfl, fun hv hA' => hQ _ _ hR hA' (hv _ rfl) (fun _ _ _ => rfl)⟩
  ·
    refine ⟨fun (c2 : ((v0 : Int) = 1)) => ?_, fun (c2 : (¬ ((v0 : Int) = 1))) => ?_⟩
    ·
      refine ⟨_, rfl, (by decide), ?_⟩
      refine fun w0 hw0 => ?_; obtain rfl : w0 = some 1 := hw0.symm.trans (FS.g hF rfl)
      refine ⟨_, rfl, (by decide), ?_⟩
      refine fun w0 hw0 => ?_; obtain rfl : w0 = some 12 := hw0.symm.trans (FS.g hF rfl)
      refine ⟨_, rfl, (by decide), ?_⟩
      exact ⟨rfl, fun hv hA' => hQ _ _ hR hA' (hv _ rfl) (fun _ _ _ => rfl)⟩
    ·
      refine ⟨fun (c3 : ((v0 : Int) = 2)) => ?_, fun (c3 : (¬ ((v0 : Int) = 2))) => ?_⟩
      ·
        refine ⟨_, rfl, (by decide), ?_⟩
        refine fun w0 hw0 => ?_; obtain rfl : w0 = some 1 := hw0.symm.trans (FS.g hF rfl)
        refine ⟨_, rfl, (by decide), ?_⟩
        refine fun w0 hw0 => ?_; obtain rfl : w0 = some 12 := hw0.symm.trans (FS.g hF rfl)
        refine ⟨⟨_, rfl, (by decide)⟩, ?_⟩
        refine c_taken  hF hR (fun vr4 hr5 => ?_)
        have hr5 : -2147483648 ≤ vr4 ∧ vr4 < 2147483648 := hr5
        exact ⟨rfl, fun hv hA' => hQ _ _ hR hA' (hv _ rfl) (fun _ _ _ => rfl)⟩
      ·
        refine ⟨fun (c6 : ((v0 : Int) = 3)) => ?_, fun (c6 : (¬ ((v0 : Int) = 3))) => ?_⟩
        ·
          refine ⟨_, rfl, (by decide), ?_⟩
          refine fun w0 hw0 => ?_; obtain rfl : w0 = some 1 := hw0.symm.trans (FS.g hF rfl)
          refine ⟨⟨_, rfl, (by decide)⟩, ?_⟩
          refine c_there  hF hR (fun vr7 hr8 => ?_)
          have hr8 : -2147483648 ≤ vr7 ∧ vr7 < 2147483648 := hr8
          exact ⟨rfl, fun hv hA' => hQ _ _ hR hA' (hv _ rfl) (fun _ _ _ => rfl)⟩
        ·
          refine ⟨fun (c9 : ((v0 : Int) = 4)) => ?_, fun (c9 : (¬ ((v0 : Int) = 4))) => ?_⟩
          ·
            refine ⟨_, rfl, (by decide), ?_⟩
            refine fun w0 hw0 => ?_; obtain rfl : w0 = some 1 := hw0.symm.trans (FS.g hF rfl)
            refine ⟨_, rfl, (by decide), ?_⟩
            exact ⟨rfl, fun hv hA' => hQ _ _ hR hA' (hv _ rfl) (fun _ _ _ => rfl)⟩
          ·
            refine ⟨fun (c10 : ((v0 : Int) = 5)) => ?_, fun (c10 : (¬ ((v0 : Int) = 5))) => ?_⟩
            ·
              refine ⟨_, rfl, (by decide), ?_⟩
              refine fun w0 hw0 => ?_; obtain rfl : w0 = some 1 := hw0.symm.trans (FS.g hF rfl)
              refine ⟨_, rfl, (by decide), ?_⟩
              exact ⟨rfl, fun hv hA' => hQ _ _ hR hA' (hv _ rfl) (fun _ _ _ => rfl)⟩
            ·
              refine ⟨fun (c11 : ((v0 : Int) = 6)) => ?_, fun (c11 : (¬ ((v0 : Int) = 6))) => ?_⟩
              ·
                refine ⟨_, rfl, (by decide), ?_⟩
                refine fun w0 hw0 => ?_; obtain rfl : w0 = some 205 := hw0.symm.trans (FS.g hF rfl)
                refine ⟨_, rfl, (by decide), ?_⟩
                exact ⟨rfl, fun hv hA' => hQ _ _ hR hA' (hv _ rfl) (fun _ _ _ => rfl)⟩
              ·
                refine ⟨fun (c12 : ((v0 : Int) = 7)) => ?_, fun (c12 : (¬ ((v0 : Int) = 7))) => ?_⟩
                ·
                  refine ⟨_, rfl, (by decide), ?_⟩
                  refine fun w0 hw0 => ?_; obtain rfl : w0 = some 1 := hw0.symm.trans (FS.g hF rfl)
                  refine ⟨⟨_, rfl, (by decide)⟩, ?_⟩
                  refine c_all  hF hR (fun vr13 hr14 => ?_)
                  have hr14 : -2147483648 ≤ vr13 ∧ vr13 < 2147483648 := hr14
                  exact ⟨rfl, fun hv hA' => hQ _ _ hR hA' (hv _ rfl) (fun _ _ _ => rfl)⟩
                ·
                  refine ⟨⟨_, rfl, (by decide)⟩, ?_⟩
                  refine s_X11_refuse hF (e := 1) (by decide) ?_
                  exact ⟨rfl, fun hv hA' => hQ _ _ (Rg.u hR (Pr_f rfl)) hA' (hv _ rfl) (fun ka ja hk => (uI_o (show ¬ (ka = 203 ∧ ja = 1) from by first | (intro e; obtain ⟨rfl, rfl⟩ := e; exact hk (by decide)) | omega)))⟩
theorem c_told (hF : FS F) (hR : Rg I) {v0 : Int}  (hQ : ∀ (r : Int) (I' : pI), Rg I' → AR I' → iR r → (∀ k j, ¬ (k = 203) → I' k j = I k j) → Q (some (vi r)) F I') : CallN G (d + 2) kX11_told [vr 0, vi v0] NP F I Q := by
  refine CallN_in (fun hok hA => CallN_out ?_)
  have iv0 : -2147483648 ≤ v0 ∧ v0 < 2147483648 := hok (vi v0) (by simp)
  refine Call_wp (lv := [some (vr 0), some (vi v0)]) (by decide) ckX11_told [] rfl rfl ?_
  refine s_X11_within (fun (w1 : ((1 : Int) ≤ v0 ∧ (v0 : Int) ≤ 6)) => ?_) (fun (w1 : ¬ ((1 : Int) ≤ v0 ∧ (v0 : Int) ≤ 6)) => ?_)
  ·
    refine ⟨fun c => absurd c (show (¬ ((1 : Int) = 0)) from by decide), fun _ => ?_⟩
    refine ⟨_, rfl, (by decide), ?_⟩
    refine fun w0 hw0 => ?_; obtain rfl : w0 = some 203 := hw0.symm.trans (FS.g hF rfl)
    refine ⟨_, rfl, (by decide), (show (0 : Int) ≤ v0 from by first | with_reducible assumption | omega | (simp only [wr, wl] at *; omega)), (show v0 < (7 : Int) from by first | with_reducible assumption | omega | (simp only [wr, wl] at *; omega)), ?_⟩
    exact ⟨rfl, fun hv hA' => hQ _ _ hR hA' (hv _ rfl) (fun _ _ _ => rfl)⟩
  ·
    refine ⟨fun _ => ?_, fun c => absurd (show ((0 : Int) = 0) from by decide) c⟩
    refine ⟨⟨_, rfl, (by decide)⟩, ?_⟩
    refine s_X11_refuse hF (e := 1) (by decide) ?_
    exact ⟨rfl, fun hv hA' => hQ _ _ (Rg.u hR (Pr_f rfl)) hA' (hv _ rfl) (fun ka ja hk => (uI_o (show ¬ (ka = 203 ∧ ja = 1) from by first | (intro e; obtain ⟨rfl, rfl⟩ := e; exact hk (by decide)) | omega)))⟩
end CC
