/-! sheet: what it answers, from any state. Own work (scripts laid by wip/pm/gen32.py). -/
def fx_sheet (s b n : Int) : Int := if ¬ (0 ≤ s ∧ s ≤ 3) ∨ (b ≠ 0 ∧ b ≠ 8 ∧ b ≠ 16 ∧ b ≠ 32) then -1000001 else if b ≠ 0 ∧ n < 0 then -1000003 else if b ≠ 0 ∧ 24 < n then -1000001 else 1
section SH
variable {G : pG} {d : Nat} {F : pF} {I : pI} {Q : Option pV → pF → pI → Prop}
theorem c_sheet2 (hF : FS F) (hR : Rg I) {v0 v1 v2 : Int}  (hQ : ∀ (r : Int) (I' : pI), Rg I' → AR I' → iR r → (∀ k j, ¬ (k = 203 ∨ (227 ≤ k ∧ k < 235)) → I' k j = I k j) → (r = fx_sheet v0 v1 v2) → Q (some (vi r)) F I') : CallN G (d + 2) kX11_sheet [vr 0, vi v0, vi v1, vi v2] NP F I Q := by
  refine CallN_in (fun hok hA => CallN_out ?_)
  have iv0 : -2147483648 ≤ v0 ∧ v0 < 2147483648 := hok (vi v0) (by simp)
  have iv1 : -2147483648 ≤ v1 ∧ v1 < 2147483648 := hok (vi v1) (by simp)
  have iv2 : -2147483648 ≤ v2 ∧ v2 < 2147483648 := hok (vi v2) (by simp)
  refine Call_wp (lv := [some (vr 0), some (vi v0), some (vi v1), some (vi v2), none]) (by decide) ckX11_sheet [] rfl rfl ?_
  refine ⟨⟨_, rfl, (by decide)⟩, ?_⟩
  refine s_X11_sheetAt hF (fun (w1 : (0 ≤ v0 ∧ v0 ≤ 3)) => ?_) (fun (w1 : ¬ (0 ≤ v0 ∧ v0 ≤ 3)) => ?_)
  ·
    have hp2 : HP F (227 + 2 * Int.toNat v0) := HP_of hF w1
    refine ⟨fun (c3 : ((v1 : Int) = 0)) => ?_, fun (c3 : (¬ ((v1 : Int) = 0))) => ?_⟩
    ·
      refine ⟨fun _ => ?_, fun c => absurd (show ((v1 : Int) = 0) from by first | omega | (simp only [wr, wl] at *; omega)) c⟩
      refine ⟨fun _ => ?_, fun c => absurd (show ((v1 : Int) = 0) from by first | omega | (simp only [wr, wl] at *; omega)) c⟩
      refine ⟨⟨_, hp2.1, (by have := hp2.2.2.1; show _ < 254; omega)⟩, ?_⟩
      refine c_become (v0 := v1) (v1 := v2) hF hR hp2 (fun I4 hR5 hA6 hW7 => ?_)
      exact ⟨rfl, fun hv hA' => hQ _ _ hR5 hA' (hv _ rfl) (fun ka ja hk => (hW7 ka ja (by omega))) (show 1 = fx_sheet v0 v1 v2 from by (unfold fx_sheet; (repeat' split) <;> first | rfl | omega))⟩
    ·
      refine ⟨fun (c8 : ((v1 : Int) = 8)) => ?_, fun (c8 : (¬ ((v1 : Int) = 8))) => ?_⟩
      ·
        refine ⟨fun c => absurd c (show (¬ ((v1 : Int) = 0)) from by first | omega | (simp only [wr, wl] at *; omega)), fun _ => ?_⟩
        refine ⟨fun (c9 : ((0 : Int) ≤ v2)) => ?_, fun (c9 : (¬ ((0 : Int) ≤ v2))) => ?_⟩
        ·
          refine ⟨fun c => absurd c (show (¬ ((v1 : Int) = 0)) from by first | omega | (simp only [wr, wl] at *; omega)), fun _ => ?_⟩
          refine ⟨fun (c10 : ((v2 : Int) ≤ 24)) => ?_, fun (c10 : (¬ ((v2 : Int) ≤ 24))) => ?_⟩
          ·
            refine ⟨⟨_, hp2.1, (by have := hp2.2.2.1; show _ < 254; omega)⟩, ?_⟩
            refine c_become (v0 := v1) (v1 := v2) hF hR hp2 (fun I11 hR12 hA13 hW14 => ?_)
            exact ⟨rfl, fun hv hA' => hQ _ _ hR12 hA' (hv _ rfl) (fun ka ja hk => (hW14 ka ja (by omega))) (show 1 = fx_sheet v0 v1 v2 from by (unfold fx_sheet; (repeat' split) <;> first | rfl | omega))⟩
          ·
            refine ⟨⟨_, rfl, (by decide)⟩, ?_⟩
            refine s_X11_refuse hF (e := 1) (by decide) ?_
            exact ⟨rfl, fun hv hA' => hQ _ _ (Rg.u hR (Pr_f rfl)) hA' (hv _ rfl) (fun ka ja hk => (uI_o (show ¬ (ka = 203 ∧ ja = 1) from by omega))) (show (-1000001) = fx_sheet v0 v1 v2 from by (unfold fx_sheet; (repeat' split) <;> first | rfl | omega))⟩
        ·
          refine ⟨⟨_, rfl, (by decide)⟩, ?_⟩
          refine s_X11_refuse hF (e := 3) (by decide) ?_
          exact ⟨rfl, fun hv hA' => hQ _ _ (Rg.u hR (Pr_f rfl)) hA' (hv _ rfl) (fun ka ja hk => (uI_o (show ¬ (ka = 203 ∧ ja = 3) from by omega))) (show (-1000003) = fx_sheet v0 v1 v2 from by (unfold fx_sheet; (repeat' split) <;> first | rfl | omega))⟩
      ·
        refine ⟨fun (c15 : ((v1 : Int) = 16)) => ?_, fun (c15 : (¬ ((v1 : Int) = 16))) => ?_⟩
        ·
          refine ⟨fun c => absurd c (show (¬ ((v1 : Int) = 0)) from by first | omega | (simp only [wr, wl] at *; omega)), fun _ => ?_⟩
          refine ⟨fun (c16 : ((0 : Int) ≤ v2)) => ?_, fun (c16 : (¬ ((0 : Int) ≤ v2))) => ?_⟩
          ·
            refine ⟨fun c => absurd c (show (¬ ((v1 : Int) = 0)) from by first | omega | (simp only [wr, wl] at *; omega)), fun _ => ?_⟩
            refine ⟨fun (c17 : ((v2 : Int) ≤ 24)) => ?_, fun (c17 : (¬ ((v2 : Int) ≤ 24))) => ?_⟩
            ·
              refine ⟨⟨_, hp2.1, (by have := hp2.2.2.1; show _ < 254; omega)⟩, ?_⟩
              refine c_become (v0 := v1) (v1 := v2) hF hR hp2 (fun I18 hR19 hA20 hW21 => ?_)
              exact ⟨rfl, fun hv hA' => hQ _ _ hR19 hA' (hv _ rfl) (fun ka ja hk => (hW21 ka ja (by omega))) (show 1 = fx_sheet v0 v1 v2 from by (unfold fx_sheet; (repeat' split) <;> first | rfl | omega))⟩
            ·
              refine ⟨⟨_, rfl, (by decide)⟩, ?_⟩
              refine s_X11_refuse hF (e := 1) (by decide) ?_
              exact ⟨rfl, fun hv hA' => hQ _ _ (Rg.u hR (Pr_f rfl)) hA' (hv _ rfl) (fun ka ja hk => (uI_o (show ¬ (ka = 203 ∧ ja = 1) from by omega))) (show (-1000001) = fx_sheet v0 v1 v2 from by (unfold fx_sheet; (repeat' split) <;> first | rfl | omega))⟩
          ·
            refine ⟨⟨_, rfl, (by decide)⟩, ?_⟩
            refine s_X11_refuse hF (e := 3) (by decide) ?_
            exact ⟨rfl, fun hv hA' => hQ _ _ (Rg.u hR (Pr_f rfl)) hA' (hv _ rfl) (fun ka ja hk => (uI_o (show ¬ (ka = 203 ∧ ja = 3) from by omega))) (show (-1000003) = fx_sheet v0 v1 v2 from by (unfold fx_sheet; (repeat' split) <;> first | rfl | omega))⟩
        ·
          refine ⟨fun (c22 : ((v1 : Int) = 32)) => ?_, fun (c22 : (¬ ((v1 : Int) = 32))) => ?_⟩
          ·
            refine ⟨fun c => absurd c (show (¬ ((v1 : Int) = 0)) from by first | omega | (simp only [wr, wl] at *; omega)), fun _ => ?_⟩
            refine ⟨fun (c23 : ((0 : Int) ≤ v2)) => ?_, fun (c23 : (¬ ((0 : Int) ≤ v2))) => ?_⟩
            ·
              refine ⟨fun c => absurd c (show (¬ ((v1 : Int) = 0)) from by first | omega | (simp only [wr, wl] at *; omega)), fun _ => ?_⟩
              refine ⟨fun (c24 : ((v2 : Int) ≤ 24)) => ?_, fun (c24 : (¬ ((v2 : Int) ≤ 24))) => ?_⟩
              ·
                refine ⟨⟨_, hp2.1, (by have := hp2.2.2.1; show _ < 254; omega)⟩, ?_⟩
                refine c_become (v0 := v1) (v1 := v2) hF hR hp2 (fun I25 hR26 hA27 hW28 => ?_)
                exact ⟨rfl, fun hv hA' => hQ _ _ hR26 hA' (hv _ rfl) (fun ka ja hk => (hW28 ka ja (by omega))) (show 1 = fx_sheet v0 v1 v2 from by (unfold fx_sheet; (repeat' split) <;> first | rfl | omega))⟩
              ·
                refine ⟨⟨_, rfl, (by decide)⟩, ?_⟩
                refine s_X11_refuse hF (e := 1) (by decide) ?_
                exact ⟨rfl, fun hv hA' => hQ _ _ (Rg.u hR (Pr_f rfl)) hA' (hv _ rfl) (fun ka ja hk => (uI_o (show ¬ (ka = 203 ∧ ja = 1) from by omega))) (show (-1000001) = fx_sheet v0 v1 v2 from by (unfold fx_sheet; (repeat' split) <;> first | rfl | omega))⟩
            ·
              refine ⟨⟨_, rfl, (by decide)⟩, ?_⟩
              refine s_X11_refuse hF (e := 3) (by decide) ?_
              exact ⟨rfl, fun hv hA' => hQ _ _ (Rg.u hR (Pr_f rfl)) hA' (hv _ rfl) (fun ka ja hk => (uI_o (show ¬ (ka = 203 ∧ ja = 3) from by omega))) (show (-1000003) = fx_sheet v0 v1 v2 from by (unfold fx_sheet; (repeat' split) <;> first | rfl | omega))⟩
          ·
            refine ⟨⟨_, rfl, (by decide)⟩, ?_⟩
            refine s_X11_refuse hF (e := 1) (by decide) ?_
            exact ⟨rfl, fun hv hA' => hQ _ _ (Rg.u hR (Pr_f rfl)) hA' (hv _ rfl) (fun ka ja hk => (uI_o (show ¬ (ka = 203 ∧ ja = 1) from by omega))) (show (-1000001) = fx_sheet v0 v1 v2 from by (unfold fx_sheet; (repeat' split) <;> first | rfl | omega))⟩
  ·
    refine ⟨⟨_, rfl, (by decide)⟩, ?_⟩
    refine s_X11_refuse hF (e := 1) (by decide) ?_
    exact ⟨rfl, fun hv hA' => hQ _ _ (Rg.u hR (Pr_f rfl)) hA' (hv _ rfl) (fun ka ja hk => (uI_o (show ¬ (ka = 203 ∧ ja = 1) from by omega))) (show (-1000001) = fx_sheet v0 v1 v2 from by (unfold fx_sheet; (repeat' split) <;> first | rfl | omega))⟩
theorem r_sheet2_l (hF : FS F) (hR : Rg I) {v0 v1 v2 : Int} (hs : 0 ≤ v0 ∧ v0 ≤ 3) (hfx : fx_sheet v0 v1 v2 = 1) (hQ : ∀ (r : Int) (I' : pI), Rg I' → (∀ k j, ¬ (k = 238 ∨ k = 250 ∨ k = 251 ∨ k = 252) → I' k j = I k j) → (r = fx_sheet v0 v1 v2) → Q (some (vi r)) F I') : ∀ (mz : Nat) (k : Int) (J : pI), Rg J → (∀ k j, ¬ (k = 238 ∨ k = 250 ∨ k = 251 ∨ k = 252) → J k j = I k j) → ((0 : Int) ≤ k) → ((k : Int) ≤ 24) → (24 - k).toNat < mz → GoN G d kX12_sheet NP NP 93 [some (vr 235), some (vi v0), some (vi v1), some (vi v2), some (vi k)] [] F J Q := by
  intro mz
  induction mz with
  | zero => intro k J hJ hV _ _ h; exact absurd h (Nat.not_lt_zero _)
  | succ mz ih =>
    intro k J hJ hV c100 c101 hm
    refine GoN_in (fun hok hA => ?_)
    have iiv0 : -2147483648 ≤ v0 ∧ v0 < 2147483648 := hok 1 _ rfl
    have iiv1 : -2147483648 ≤ v1 ∧ v1 < 2147483648 := hok 2 _ rfl
    have iiv2 : -2147483648 ≤ v2 ∧ v2 < 2147483648 := hok 3 _ rfl
    have iik : -2147483648 ≤ k ∧ k < 2147483648 := hok 4 _ rfl
    refine Go_wp (by decide) ckX12_sheet [93] ?_
    refine ⟨fun (c1 : ((24 : Int) ≤ k)) => ?_, fun (c1 : (¬ ((24 : Int) ≤ k))) => ?_⟩
    ·
      exact ⟨rfl, hQ _ _ hJ (fun ka ja hk => (hV ka ja (by omega))) (show 1 = fx_sheet v0 v1 v2 from by first | omega | (simp only [wr, wl] at *; omega))⟩
    ·
      refine ⟨_, rfl, (by decide), ?_⟩
      refine fun w0 hw0 => ?_; obtain rfl : w0 = some 252 := hw0.symm.trans (FS.g hF rfl)
      have n2 : (wr (24 * v0)) = 24 * v0 := wr_id (show -2147483648 ≤ (24 * v0 : Int) ∧ (24 * v0 : Int) < 2147483648 from by omega)
      have n3 : (wr ((wr (24 * v0)) + k)) = (wr (24 * v0)) + k := wr_id (show -2147483648 ≤ ((wr (24 * v0)) + k : Int) ∧ ((wr (24 * v0)) + k : Int) < 2147483648 from by omega)
      refine ⟨_, rfl, (by decide), (show (0 : Int) ≤ (wr ((wr (24 * v0)) + k)) from by first | omega | (simp only [wr, wl] at *; omega)), (show (wr ((wr (24 * v0)) + k)) < (96 : Int) from by first | omega | (simp only [wr, wl] at *; omega)), ?_⟩
      have n4 : (wr (k + 1)) = k + 1 := wr_id (show -2147483648 ≤ (k + 1 : Int) ∧ (k + 1 : Int) < 2147483648 from by omega)
      exact ih (wr (k + 1)) (uI J 252 (Int.toNat (wr ((wr (24 * v0)) + k))) 0) (Rg.u hJ (Pr_p (k := 252) rfl _ _)) (fun ka ja hk => ((uI_o (show ¬ (ka = 252 ∧ ja = (Int.toNat (wr ((wr (24 * v0)) + k)))) from by omega))).trans ((hV ka ja (by omega)))) (show (0 : Int) ≤ (wr (k + 1)) from by first | omega | (simp only [wr, wl] at *; omega)) (show ((wr (k + 1)) : Int) ≤ 24 from by first | omega | (simp only [wr, wl] at *; omega)) (show (24 - (wr (k + 1))).toNat < mz from by omega)
theorem r_sheet2 (hF : FS F) (hR : Rg I) {v0 v1 v2 : Int}  (hQ : ∀ (r : Int) (I' : pI), Rg I' → AR I' → iR r → (∀ k j, ¬ (k = 238 ∨ k = 250 ∨ k = 251 ∨ k = 252) → I' k j = I k j) → (r = fx_sheet v0 v1 v2) → Q (some (vi r)) F I') : CallN G (d + 2) kX12_sheet [vr 235, vi v0, vi v1, vi v2] NP F I Q := by
  refine CallN_in (fun hok hA => CallN_out ?_)
  have iv0 : -2147483648 ≤ v0 ∧ v0 < 2147483648 := hok (vi v0) (by simp)
  have iv1 : -2147483648 ≤ v1 ∧ v1 < 2147483648 := hok (vi v1) (by simp)
  have iv2 : -2147483648 ≤ v2 ∧ v2 < 2147483648 := hok (vi v2) (by simp)
  refine Call_wp (lv := [some (vr 235), some (vi v0), some (vi v1), some (vi v2), none]) (by decide) ckX12_sheet [93] rfl rfl ?_
  refine s_X12_isSheet (fun (w1 : ((0 : Int) ≤ v0 ∧ (v0 : Int) ≤ 3)) => ?_) (fun (w1 : ¬ ((0 : Int) ≤ v0 ∧ (v0 : Int) ≤ 3)) => ?_)
  ·
    refine ⟨fun c => absurd c (show (¬ ((1 : Int) = 0)) from by decide), fun _ => ?_⟩
    refine ⟨fun (c2 : ((v1 : Int) = 0)) => ?_, fun (c2 : (¬ ((v1 : Int) = 0))) => ?_⟩
    ·
      refine ⟨fun _ => ?_, fun c => absurd (show ((v1 : Int) = 0) from by first | omega | (simp only [wr, wl] at *; omega)) c⟩
      refine ⟨fun _ => ?_, fun c => absurd (show ((v1 : Int) = 0) from by first | omega | (simp only [wr, wl] at *; omega)) c⟩
      refine ⟨_, rfl, (by decide), ?_⟩
      refine fun w0 hw0 => ?_; obtain rfl : w0 = some 250 := hw0.symm.trans (FS.g hF rfl)
      refine ⟨_, rfl, (by decide), (show (0 : Int) ≤ v0 from by first | omega | (simp only [wr, wl] at *; omega)), (show v0 < (4 : Int) from by first | omega | (simp only [wr, wl] at *; omega)), ?_⟩
      refine ⟨_, rfl, (by decide), ?_⟩
      refine fun w0 hw0 => ?_; obtain rfl : w0 = some 251 := hw0.symm.trans (FS.g hF rfl)
      refine ⟨fun c => absurd (show ((v1 : Int) = 0) from by first | omega | (simp only [wr, wl] at *; omega)) c, fun _ => ?_⟩
      refine ⟨_, rfl, (by decide), (show (0 : Int) ≤ v0 from by first | omega | (simp only [wr, wl] at *; omega)), (show v0 < (4 : Int) from by first | omega | (simp only [wr, wl] at *; omega)), ?_⟩
      have p3 : (0 : Int) ≤ 0 ∧ (0 : Int) ≤ 24 := by omega
      refine r_sheet2_l hF hR (by omega) (by unfold fx_sheet; (repeat' split) <;> first | rfl | omega) (fun r I' g1 g2 g3 hv hA' => hQ _ _ g1 hA' (hv _ rfl) g2 g3) _ 0 (uI (uI I 250 (Int.toNat v0) v1) 251 (Int.toNat v0) 0) (Rg.u (Rg.u hR (Pr_p (k := 250) rfl _ _)) (Pr_s p3)) (fun ka ja hk => ((uI_o (show ¬ (ka = 251 ∧ ja = (Int.toNat v0)) from by omega))).trans ((uI_o (show ¬ (ka = 250 ∧ ja = (Int.toNat v0)) from by omega)))) (show (0 : Int) ≤ (0 : Int) from by first | omega | (simp only [wr, wl] at *; omega)) (show ((0 : Int) : Int) ≤ 24 from by first | omega | (simp only [wr, wl] at *; omega)) (Nat.lt_succ_self _)
    ·
      refine ⟨fun (c4 : ((v1 : Int) = 8)) => ?_, fun (c4 : (¬ ((v1 : Int) = 8))) => ?_⟩
      ·
        refine ⟨fun c => absurd c (show (¬ ((v1 : Int) = 0)) from by first | omega | (simp only [wr, wl] at *; omega)), fun _ => ?_⟩
        refine ⟨fun (c5 : ((0 : Int) ≤ v2)) => ?_, fun (c5 : (¬ ((0 : Int) ≤ v2))) => ?_⟩
        ·
          refine ⟨fun c => absurd c (show (¬ ((v1 : Int) = 0)) from by first | omega | (simp only [wr, wl] at *; omega)), fun _ => ?_⟩
          refine ⟨fun (c6 : ((v2 : Int) ≤ 24)) => ?_, fun (c6 : (¬ ((v2 : Int) ≤ 24))) => ?_⟩
          ·
            refine ⟨_, rfl, (by decide), ?_⟩
            refine fun w0 hw0 => ?_; obtain rfl : w0 = some 250 := hw0.symm.trans (FS.g hF rfl)
            refine ⟨_, rfl, (by decide), (show (0 : Int) ≤ v0 from by first | omega | (simp only [wr, wl] at *; omega)), (show v0 < (4 : Int) from by first | omega | (simp only [wr, wl] at *; omega)), ?_⟩
            refine ⟨_, rfl, (by decide), ?_⟩
            refine fun w0 hw0 => ?_; obtain rfl : w0 = some 251 := hw0.symm.trans (FS.g hF rfl)
            refine ⟨fun _ => ?_, fun c => absurd c (show (¬ (v1 : Int) = 0) from by first | omega | (simp only [wr, wl] at *; omega))⟩
            refine ⟨_, rfl, (by decide), (show (0 : Int) ≤ v0 from by first | omega | (simp only [wr, wl] at *; omega)), (show v0 < (4 : Int) from by first | omega | (simp only [wr, wl] at *; omega)), ?_⟩
            have p7 : (0 : Int) ≤ v2 ∧ (v2 : Int) ≤ 24 := by omega
            refine r_sheet2_l hF hR (by omega) (by unfold fx_sheet; (repeat' split) <;> first | rfl | omega) (fun r I' g1 g2 g3 hv hA' => hQ _ _ g1 hA' (hv _ rfl) g2 g3) _ 0 (uI (uI I 250 (Int.toNat v0) v1) 251 (Int.toNat v0) v2) (Rg.u (Rg.u hR (Pr_p (k := 250) rfl _ _)) (Pr_s p7)) (fun ka ja hk => ((uI_o (show ¬ (ka = 251 ∧ ja = (Int.toNat v0)) from by omega))).trans ((uI_o (show ¬ (ka = 250 ∧ ja = (Int.toNat v0)) from by omega)))) (show (0 : Int) ≤ (0 : Int) from by first | omega | (simp only [wr, wl] at *; omega)) (show ((0 : Int) : Int) ≤ 24 from by first | omega | (simp only [wr, wl] at *; omega)) (Nat.lt_succ_self _)
          ·
            refine ⟨⟨_, rfl, (by decide)⟩, ?_⟩
            refine s_X12_finding hF (v := (-1000001)) (by decide) ?_
            exact ⟨rfl, fun hv hA' => hQ _ _ (Rg.u hR (Pr_f rfl)) hA' (hv _ rfl) (fun ka ja hk => (uI_o (show ¬ (ka = 238 ∧ ja = 1) from by omega))) (show (-1000001) = fx_sheet v0 v1 v2 from by (unfold fx_sheet; (repeat' split) <;> first | rfl | omega))⟩
        ·
          refine ⟨⟨_, rfl, (by decide)⟩, ?_⟩
          refine s_X12_finding hF (v := (-1000003)) (by decide) ?_
          exact ⟨rfl, fun hv hA' => hQ _ _ (Rg.u hR (Pr_f rfl)) hA' (hv _ rfl) (fun ka ja hk => (uI_o (show ¬ (ka = 238 ∧ ja = 3) from by omega))) (show (-1000003) = fx_sheet v0 v1 v2 from by (unfold fx_sheet; (repeat' split) <;> first | rfl | omega))⟩
      ·
        refine ⟨fun (c8 : ((v1 : Int) = 16)) => ?_, fun (c8 : (¬ ((v1 : Int) = 16))) => ?_⟩
        ·
          refine ⟨fun c => absurd c (show (¬ ((v1 : Int) = 0)) from by first | omega | (simp only [wr, wl] at *; omega)), fun _ => ?_⟩
          refine ⟨fun (c9 : ((0 : Int) ≤ v2)) => ?_, fun (c9 : (¬ ((0 : Int) ≤ v2))) => ?_⟩
          ·
            refine ⟨fun c => absurd c (show (¬ ((v1 : Int) = 0)) from by first | omega | (simp only [wr, wl] at *; omega)), fun _ => ?_⟩
            refine ⟨fun (c10 : ((v2 : Int) ≤ 24)) => ?_, fun (c10 : (¬ ((v2 : Int) ≤ 24))) => ?_⟩
            ·
              refine ⟨_, rfl, (by decide), ?_⟩
              refine fun w0 hw0 => ?_; obtain rfl : w0 = some 250 := hw0.symm.trans (FS.g hF rfl)
              refine ⟨_, rfl, (by decide), (show (0 : Int) ≤ v0 from by first | omega | (simp only [wr, wl] at *; omega)), (show v0 < (4 : Int) from by first | omega | (simp only [wr, wl] at *; omega)), ?_⟩
              refine ⟨_, rfl, (by decide), ?_⟩
              refine fun w0 hw0 => ?_; obtain rfl : w0 = some 251 := hw0.symm.trans (FS.g hF rfl)
              refine ⟨fun _ => ?_, fun c => absurd c (show (¬ (v1 : Int) = 0) from by first | omega | (simp only [wr, wl] at *; omega))⟩
              refine ⟨_, rfl, (by decide), (show (0 : Int) ≤ v0 from by first | omega | (simp only [wr, wl] at *; omega)), (show v0 < (4 : Int) from by first | omega | (simp only [wr, wl] at *; omega)), ?_⟩
              have p11 : (0 : Int) ≤ v2 ∧ (v2 : Int) ≤ 24 := by omega
              refine r_sheet2_l hF hR (by omega) (by unfold fx_sheet; (repeat' split) <;> first | rfl | omega) (fun r I' g1 g2 g3 hv hA' => hQ _ _ g1 hA' (hv _ rfl) g2 g3) _ 0 (uI (uI I 250 (Int.toNat v0) v1) 251 (Int.toNat v0) v2) (Rg.u (Rg.u hR (Pr_p (k := 250) rfl _ _)) (Pr_s p11)) (fun ka ja hk => ((uI_o (show ¬ (ka = 251 ∧ ja = (Int.toNat v0)) from by omega))).trans ((uI_o (show ¬ (ka = 250 ∧ ja = (Int.toNat v0)) from by omega)))) (show (0 : Int) ≤ (0 : Int) from by first | omega | (simp only [wr, wl] at *; omega)) (show ((0 : Int) : Int) ≤ 24 from by first | omega | (simp only [wr, wl] at *; omega)) (Nat.lt_succ_self _)
            ·
              refine ⟨⟨_, rfl, (by decide)⟩, ?_⟩
              refine s_X12_finding hF (v := (-1000001)) (by decide) ?_
              exact ⟨rfl, fun hv hA' => hQ _ _ (Rg.u hR (Pr_f rfl)) hA' (hv _ rfl) (fun ka ja hk => (uI_o (show ¬ (ka = 238 ∧ ja = 1) from by omega))) (show (-1000001) = fx_sheet v0 v1 v2 from by (unfold fx_sheet; (repeat' split) <;> first | rfl | omega))⟩
          ·
            refine ⟨⟨_, rfl, (by decide)⟩, ?_⟩
            refine s_X12_finding hF (v := (-1000003)) (by decide) ?_
            exact ⟨rfl, fun hv hA' => hQ _ _ (Rg.u hR (Pr_f rfl)) hA' (hv _ rfl) (fun ka ja hk => (uI_o (show ¬ (ka = 238 ∧ ja = 3) from by omega))) (show (-1000003) = fx_sheet v0 v1 v2 from by (unfold fx_sheet; (repeat' split) <;> first | rfl | omega))⟩
        ·
          refine ⟨fun (c12 : ((v1 : Int) = 32)) => ?_, fun (c12 : (¬ ((v1 : Int) = 32))) => ?_⟩
          ·
            refine ⟨fun c => absurd c (show (¬ ((v1 : Int) = 0)) from by first | omega | (simp only [wr, wl] at *; omega)), fun _ => ?_⟩
            refine ⟨fun (c13 : ((0 : Int) ≤ v2)) => ?_, fun (c13 : (¬ ((0 : Int) ≤ v2))) => ?_⟩
            ·
              refine ⟨fun c => absurd c (show (¬ ((v1 : Int) = 0)) from by first | omega | (simp only [wr, wl] at *; omega)), fun _ => ?_⟩
              refine ⟨fun (c14 : ((v2 : Int) ≤ 24)) => ?_, fun (c14 : (¬ ((v2 : Int) ≤ 24))) => ?_⟩
              ·
                refine ⟨_, rfl, (by decide), ?_⟩
                refine fun w0 hw0 => ?_; obtain rfl : w0 = some 250 := hw0.symm.trans (FS.g hF rfl)
                refine ⟨_, rfl, (by decide), (show (0 : Int) ≤ v0 from by first | omega | (simp only [wr, wl] at *; omega)), (show v0 < (4 : Int) from by first | omega | (simp only [wr, wl] at *; omega)), ?_⟩
                refine ⟨_, rfl, (by decide), ?_⟩
                refine fun w0 hw0 => ?_; obtain rfl : w0 = some 251 := hw0.symm.trans (FS.g hF rfl)
                refine ⟨fun _ => ?_, fun c => absurd c (show (¬ (v1 : Int) = 0) from by first | omega | (simp only [wr, wl] at *; omega))⟩
                refine ⟨_, rfl, (by decide), (show (0 : Int) ≤ v0 from by first | omega | (simp only [wr, wl] at *; omega)), (show v0 < (4 : Int) from by first | omega | (simp only [wr, wl] at *; omega)), ?_⟩
                have p15 : (0 : Int) ≤ v2 ∧ (v2 : Int) ≤ 24 := by omega
                refine r_sheet2_l hF hR (by omega) (by unfold fx_sheet; (repeat' split) <;> first | rfl | omega) (fun r I' g1 g2 g3 hv hA' => hQ _ _ g1 hA' (hv _ rfl) g2 g3) _ 0 (uI (uI I 250 (Int.toNat v0) v1) 251 (Int.toNat v0) v2) (Rg.u (Rg.u hR (Pr_p (k := 250) rfl _ _)) (Pr_s p15)) (fun ka ja hk => ((uI_o (show ¬ (ka = 251 ∧ ja = (Int.toNat v0)) from by omega))).trans ((uI_o (show ¬ (ka = 250 ∧ ja = (Int.toNat v0)) from by omega)))) (show (0 : Int) ≤ (0 : Int) from by first | omega | (simp only [wr, wl] at *; omega)) (show ((0 : Int) : Int) ≤ 24 from by first | omega | (simp only [wr, wl] at *; omega)) (Nat.lt_succ_self _)
              ·
                refine ⟨⟨_, rfl, (by decide)⟩, ?_⟩
                refine s_X12_finding hF (v := (-1000001)) (by decide) ?_
                exact ⟨rfl, fun hv hA' => hQ _ _ (Rg.u hR (Pr_f rfl)) hA' (hv _ rfl) (fun ka ja hk => (uI_o (show ¬ (ka = 238 ∧ ja = 1) from by omega))) (show (-1000001) = fx_sheet v0 v1 v2 from by (unfold fx_sheet; (repeat' split) <;> first | rfl | omega))⟩
            ·
              refine ⟨⟨_, rfl, (by decide)⟩, ?_⟩
              refine s_X12_finding hF (v := (-1000003)) (by decide) ?_
              exact ⟨rfl, fun hv hA' => hQ _ _ (Rg.u hR (Pr_f rfl)) hA' (hv _ rfl) (fun ka ja hk => (uI_o (show ¬ (ka = 238 ∧ ja = 3) from by omega))) (show (-1000003) = fx_sheet v0 v1 v2 from by (unfold fx_sheet; (repeat' split) <;> first | rfl | omega))⟩
          ·
            refine ⟨⟨_, rfl, (by decide)⟩, ?_⟩
            refine s_X12_finding hF (v := (-1000001)) (by decide) ?_
            exact ⟨rfl, fun hv hA' => hQ _ _ (Rg.u hR (Pr_f rfl)) hA' (hv _ rfl) (fun ka ja hk => (uI_o (show ¬ (ka = 238 ∧ ja = 1) from by omega))) (show (-1000001) = fx_sheet v0 v1 v2 from by (unfold fx_sheet; (repeat' split) <;> first | rfl | omega))⟩
  ·
    refine ⟨fun _ => ?_, fun c => absurd (show ((0 : Int) = 0) from by decide) c⟩
    refine ⟨⟨_, rfl, (by decide)⟩, ?_⟩
    refine s_X12_finding hF (v := (-1000001)) (by decide) ?_
    exact ⟨rfl, fun hv hA' => hQ _ _ (Rg.u hR (Pr_f rfl)) hA' (hv _ rfl) (fun ka ja hk => (uI_o (show ¬ (ka = 238 ∧ ja = 1) from by omega))) (show (-1000001) = fx_sheet v0 v1 v2 from by (unfold fx_sheet; (repeat' split) <;> first | rfl | omega))⟩
end SH
