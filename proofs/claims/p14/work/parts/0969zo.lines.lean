/-! what line and yields answer. Own work (scripts laid by wip/pm/gen34.py). -/
section LI11
variable {G : pG} {d : Nat} {F : pF} {I : pI} {Q : Option pV → pF → pI → Prop}
theorem c_yields11 (hF : FS F) (hR : Rg I) {v0 v1 : Int} (hc : I 1 1 ≤ 14) {SF LF : Nat → Nat → Int} {NF : Nat → Int} (hq : ∀ p : Nat, (p : Int) < I 1 1 → RDS I ((1 + 19 + 5 * p) + 2) (SF p) (LF p) (NF p)) (hQ : ∀ (r : Int) (I' : pI), Rg I' → AR I' → iR r → (∀ k j, ¬ (k = 203 ∨ (20 ≤ k ∧ k < 90 ∧ k % 5 = 2 ∧ 3 ≤ j)) → I' k j = I k j) → ((¬ ((0 ≤ v0 ∧ v0 < I 1 1) ∧ (0 ≤ v1 ∧ v1 ≤ 999)) → r = -1000001) ∧ (((0 ≤ v0 ∧ v0 < I 1 1) ∧ (0 ≤ v1 ∧ v1 ≤ 999)) → (ydF (SF (Int.toNat v0)) (LF (Int.toNat v0)) (Int.toNat (NF (Int.toNat v0))) v1 < 0 → r = -1000002) ∧ (¬ ydF (SF (Int.toNat v0)) (LF (Int.toNat v0)) (Int.toNat (NF (Int.toNat v0))) v1 < 0 → r = ydF (SF (Int.toNat v0)) (LF (Int.toNat v0)) (Int.toNat (NF (Int.toNat v0))) v1))) → Q (some (vi r)) F I') : CallN G (d + 5) kX11_yields [vr 0, vi v0, vi v1] NP F I Q := by
  refine CallN_in (fun hok hA => CallN_out ?_)
  have iv0 : -2147483648 ≤ v0 ∧ v0 < 2147483648 := hok (vi v0) (by simp)
  have iv1 : -2147483648 ≤ v1 ∧ v1 < 2147483648 := hok (vi v1) (by simp)
  refine Call_wp (lv := [some (vr 0), some (vi v0), some (vi v1), none]) (by decide) ckX11_yields [] rfl rfl ?_
  refine ⟨_, rfl, (by decide), ?_⟩
  refine fun w0 hw0 => ?_; obtain rfl : w0 = some 1 := hw0.symm.trans (FS.g hF rfl)
  refine ⟨⟨_, rfl, (by decide)⟩, ?_⟩
  refine s_X8_pieceAt hF (S := 1) (Or.inl rfl) (fun (w1 : (0 ≤ v0 ∧ v0 < (I 1 1) ∧ v0 < 14)) => ?_) (fun (w1 : ¬ (0 ≤ v0 ∧ v0 < (I 1 1) ∧ v0 < 14)) => ?_)
  ·
    have hp2 : PP F (1 + 19 + 5 * Int.toNat v0) := PP_of hF (by omega)
    refine s_X11_within (fun (w3 : ((0 : Int) ≤ v1 ∧ (v1 : Int) ≤ 999)) => ?_) (fun (w3 : ¬ ((0 : Int) ≤ v1 ∧ (v1 : Int) ≤ 999)) => ?_)
    ·
      refine ⟨fun _ => ?_, fun c => absurd c (show (¬ (1 : Int) = 0) from by decide)⟩
      refine ⟨_, hp2.1.1, (by have := hp2.2; show _ < 254; omega), ?_⟩
      refine fun w0 hw0 => ?_; obtain rfl : w0 = some ((1 + 19 + 5 * Int.toNat v0) + 2) := hw0.symm.trans hp2.1.2.2.2.2.1
      refine ⟨⟨_, hp2.r.1.1, (by have := hp2.r.2; show _ < 254; omega)⟩, ?_⟩
      refine c_yld11 (v0 := v1) hF hR hp2.r (hq (Int.toNat v0) (by omega)) (by omega) (fun vr4 I5 hR6 hA7 hr9 hW8 qr10 => ?_)
      have hr9 : -2147483648 ≤ vr4 ∧ vr4 < 2147483648 := hr9
      refine ⟨⟨_, rfl, (by decide)⟩, ?_⟩
      refine Call_wp (lv := [some (vr 0), some (vi vr4)]) (by decide) ckX11_orNone [] rfl rfl ?_
      refine ⟨fun (c11 : ((0 : Int) ≤ vr4)) => ?_, fun (c11 : (¬ ((0 : Int) ≤ vr4))) => ?_⟩
      ·
        refine ⟨rfl, ?_⟩
        exact ⟨rfl, fun hv hA' => hQ _ _ hR6 hA' (hv _ rfl) (fun ka ja hk => (hW8 ka ja (by omega))) (show (¬ ((0 ≤ v0 ∧ v0 < I 1 1) ∧ (0 ≤ v1 ∧ v1 ≤ 999)) → vr4 = -1000001) ∧ (((0 ≤ v0 ∧ v0 < I 1 1) ∧ (0 ≤ v1 ∧ v1 ≤ 999)) → (ydF (SF (Int.toNat v0)) (LF (Int.toNat v0)) (Int.toNat (NF (Int.toNat v0))) v1 < 0 → vr4 = -1000002) ∧ (¬ ydF (SF (Int.toNat v0)) (LF (Int.toNat v0)) (Int.toNat (NF (Int.toNat v0))) v1 < 0 → vr4 = ydF (SF (Int.toNat v0)) (LF (Int.toNat v0)) (Int.toNat (NF (Int.toNat v0))) v1)) from by
                              refine ⟨fun z => ?_, fun z => ?_⟩
                              · first | omega | (exfalso; omega)
                              · rw [← qr10]
                                refine ⟨fun b => ?_, fun b => ?_⟩
                                all_goals first | omega | (exfalso; omega))⟩
      ·
        refine ⟨⟨_, rfl, (by decide)⟩, ?_⟩
        refine s_X11_refuse hF (e := 2) (by decide) ?_
        have u12 : (I5 203 2) = (I 203 2) := hW8 _ _ (by first | decide | omega)
        have a13 : -2147483648 ≤ (I 203 2) ∧ (I 203 2) < 2147483648 := hA.1 _ _
        have a14 : -2147483648 ≤ (I5 203 2) ∧ (I5 203 2) < 2147483648 := hA7.1 _ _
        refine ⟨rfl, ?_⟩
        exact ⟨rfl, fun hv hA' => hQ _ _ (Rg.u hR6 (Pr_f rfl)) hA' (hv _ rfl) (fun ka ja hk => ((uI_o (show ¬ (ka = 203 ∧ ja = 2) from by first | (intro e; obtain ⟨rfl, rfl⟩ := e; exact hk (by decide)) | omega))).trans ((hW8 ka ja (by omega)))) (show (¬ ((0 ≤ v0 ∧ v0 < I 1 1) ∧ (0 ≤ v1 ∧ v1 ≤ 999)) → (-1000002) = -1000001) ∧ (((0 ≤ v0 ∧ v0 < I 1 1) ∧ (0 ≤ v1 ∧ v1 ≤ 999)) → (ydF (SF (Int.toNat v0)) (LF (Int.toNat v0)) (Int.toNat (NF (Int.toNat v0))) v1 < 0 → (-1000002) = -1000002) ∧ (¬ ydF (SF (Int.toNat v0)) (LF (Int.toNat v0)) (Int.toNat (NF (Int.toNat v0))) v1 < 0 → (-1000002) = ydF (SF (Int.toNat v0)) (LF (Int.toNat v0)) (Int.toNat (NF (Int.toNat v0))) v1)) from by
                              refine ⟨fun z => ?_, fun z => ?_⟩
                              · first | omega | (exfalso; omega)
                              · rw [← qr10]
                                refine ⟨fun b => ?_, fun b => ?_⟩
                                all_goals first | omega | (exfalso; omega))⟩
    ·
      refine ⟨fun c => absurd (show ((0 : Int) = 0) from by decide) c, fun _ => ?_⟩
      refine ⟨⟨_, rfl, (by decide)⟩, ?_⟩
      refine s_X11_refuse hF (e := 1) (by decide) ?_
      exact ⟨rfl, fun hv hA' => hQ _ _ (Rg.u hR (Pr_f rfl)) hA' (hv _ rfl) (fun ka ja hk => (uI_o (show ¬ (ka = 203 ∧ ja = 1) from by first | (intro e; obtain ⟨rfl, rfl⟩ := e; exact hk (by decide)) | omega))) (show (¬ ((0 ≤ v0 ∧ v0 < I 1 1) ∧ (0 ≤ v1 ∧ v1 ≤ 999)) → (-1000001) = -1000001) ∧ (((0 ≤ v0 ∧ v0 < I 1 1) ∧ (0 ≤ v1 ∧ v1 ≤ 999)) → (ydF (SF (Int.toNat v0)) (LF (Int.toNat v0)) (Int.toNat (NF (Int.toNat v0))) v1 < 0 → (-1000001) = -1000002) ∧ (¬ ydF (SF (Int.toNat v0)) (LF (Int.toNat v0)) (Int.toNat (NF (Int.toNat v0))) v1 < 0 → (-1000001) = ydF (SF (Int.toNat v0)) (LF (Int.toNat v0)) (Int.toNat (NF (Int.toNat v0))) v1)) from by
                              refine ⟨fun z => ?_, fun z => ?_⟩
                              · first | omega | (exfalso; omega)
                              · exfalso; omega)⟩
  ·
    refine ⟨⟨_, rfl, (by decide)⟩, ?_⟩
    refine s_X11_refuse hF (e := 1) (by decide) ?_
    exact ⟨rfl, fun hv hA' => hQ _ _ (Rg.u hR (Pr_f rfl)) hA' (hv _ rfl) (fun ka ja hk => (uI_o (show ¬ (ka = 203 ∧ ja = 1) from by first | (intro e; obtain ⟨rfl, rfl⟩ := e; exact hk (by decide)) | omega))) (show (¬ ((0 ≤ v0 ∧ v0 < I 1 1) ∧ (0 ≤ v1 ∧ v1 ≤ 999)) → (-1000001) = -1000001) ∧ (((0 ≤ v0 ∧ v0 < I 1 1) ∧ (0 ≤ v1 ∧ v1 ≤ 999)) → (ydF (SF (Int.toNat v0)) (LF (Int.toNat v0)) (Int.toNat (NF (Int.toNat v0))) v1 < 0 → (-1000001) = -1000002) ∧ (¬ ydF (SF (Int.toNat v0)) (LF (Int.toNat v0)) (Int.toNat (NF (Int.toNat v0))) v1 < 0 → (-1000001) = ydF (SF (Int.toNat v0)) (LF (Int.toNat v0)) (Int.toNat (NF (Int.toNat v0))) v1)) from by
                              refine ⟨fun z => ?_, fun z => ?_⟩
                              · first | omega | (exfalso; omega)
                              · exfalso; omega)⟩
theorem r_yields11 (hF : FS F) (hR : Rg I) {v0 v1 : Int} {SF LF : Nat → Nat → Int} {NF : Nat → Int} (hq : ∀ p : Nat, (p : Int) < I 236 0 → RDM I p (SF p) (LF p) (NF p)) (hQ : ∀ (r : Int) (I' : pI), Rg I' → AR I' → iR r → (∀ k j, ¬ (k = 238 ∨ (k = 235 ∧ 22 ≤ j ∧ j ≤ 24)) → I' k j = I k j) → ((¬ ((0 ≤ v0 ∧ v0 < I 236 0) ∧ (0 ≤ v1 ∧ v1 ≤ 999)) → r = -1000001) ∧ (((0 ≤ v0 ∧ v0 < I 236 0) ∧ (0 ≤ v1 ∧ v1 ≤ 999)) → (ydF (SF (Int.toNat v0)) (LF (Int.toNat v0)) (Int.toNat (NF (Int.toNat v0))) v1 < 0 → r = -1000002) ∧ (¬ ydF (SF (Int.toNat v0)) (LF (Int.toNat v0)) (Int.toNat (NF (Int.toNat v0))) v1 < 0 → r = ydF (SF (Int.toNat v0)) (LF (Int.toNat v0)) (Int.toNat (NF (Int.toNat v0))) v1))) → Q (some (vi r)) F I') : CallN G (d + 6) kX12_yields [vr 235, vi v0, vi v1] NP F I Q := by
  refine CallN_in (fun hok hA => CallN_out ?_)
  have iv0 : -2147483648 ≤ v0 ∧ v0 < 2147483648 := hok (vi v0) (by simp)
  have iv1 : -2147483648 ≤ v1 ∧ v1 < 2147483648 := hok (vi v1) (by simp)
  refine Call_wp (lv := [some (vr 235), some (vi v0), some (vi v1), none]) (by decide) ckX12_yields [] rfl rfl ?_
  refine ⟨⟨_, rfl, (by decide)⟩, ?_⟩
  have r1 : 0 ≤ (I 236 0) ∧ (I 236 0) ≤ 14 := Rg.n0 hR
  refine s_X12_is hF (w := 0) (by decide) (show 0 ≤ (I 236 0) ∧ (I 236 0) < 1000000 from by omega) (fun (w2 : (0 ≤ v0 ∧ v0 < (I 236 0))) => ?_) (fun (w2 : ¬ (0 ≤ v0 ∧ v0 < (I 236 0))) => ?_)
  ·
    refine ⟨fun c => absurd c (show (¬ ((1 : Int) = 0)) from by decide), fun _ => ?_⟩
    refine s_X12_within (fun (w3 : ((0 : Int) ≤ v1 ∧ (v1 : Int) ≤ 999)) => ?_) (fun (w3 : ¬ ((0 : Int) ≤ v1 ∧ (v1 : Int) ≤ 999)) => ?_)
    ·
      refine ⟨fun _ => ?_, fun c => absurd c (show (¬ (1 : Int) = 0) from by decide)⟩
      refine ⟨⟨_, rfl, (by decide)⟩, ?_⟩
      refine r_yld11 (v0 := v0) (v1 := v1) hF hR (by omega) (hq (Int.toNat v0) (by omega)) (by omega) (fun vr4 I5 hR6 hA7 hr9 hW8 qr10 => ?_)
      have hr9 : -2147483648 ≤ vr4 ∧ vr4 < 2147483648 := hr9
      refine ⟨fun (c11 : ((0 : Int) ≤ vr4)) => ?_, fun (c11 : (¬ ((0 : Int) ≤ vr4))) => ?_⟩
      ·
        exact ⟨rfl, fun hv hA' => hQ _ _ hR6 hA' (hv _ rfl) (fun ka ja hk => (hW8 ka ja (by omega))) (show (¬ ((0 ≤ v0 ∧ v0 < I 236 0) ∧ (0 ≤ v1 ∧ v1 ≤ 999)) → vr4 = -1000001) ∧ (((0 ≤ v0 ∧ v0 < I 236 0) ∧ (0 ≤ v1 ∧ v1 ≤ 999)) → (ydF (SF (Int.toNat v0)) (LF (Int.toNat v0)) (Int.toNat (NF (Int.toNat v0))) v1 < 0 → vr4 = -1000002) ∧ (¬ ydF (SF (Int.toNat v0)) (LF (Int.toNat v0)) (Int.toNat (NF (Int.toNat v0))) v1 < 0 → vr4 = ydF (SF (Int.toNat v0)) (LF (Int.toNat v0)) (Int.toNat (NF (Int.toNat v0))) v1)) from by
                              refine ⟨fun z => ?_, fun z => ?_⟩
                              · first | omega | (exfalso; omega)
                              · rw [← qr10]
                                refine ⟨fun b => ?_, fun b => ?_⟩
                                all_goals first | omega | (exfalso; omega))⟩
      ·
        refine ⟨⟨_, rfl, (by decide)⟩, ?_⟩
        refine s_X12_finding hF (v := (-1000002)) (by decide) ?_
        have u12 : (I5 238 2) = (I 238 2) := hW8 _ _ (by first | decide | omega)
        have a13 : -2147483648 ≤ (I 238 2) ∧ (I 238 2) < 2147483648 := hA.1 _ _
        have a14 : -2147483648 ≤ (I5 238 2) ∧ (I5 238 2) < 2147483648 := hA7.1 _ _
        exact ⟨rfl, fun hv hA' => hQ _ _ (Rg.u hR6 (Pr_f rfl)) hA' (hv _ rfl) (fun ka ja hk => ((uI_o (show ¬ (ka = 238 ∧ ja = 2) from by first | (intro e; obtain ⟨rfl, rfl⟩ := e; exact hk (by decide)) | omega))).trans ((hW8 ka ja (by omega)))) (show (¬ ((0 ≤ v0 ∧ v0 < I 236 0) ∧ (0 ≤ v1 ∧ v1 ≤ 999)) → (-1000002) = -1000001) ∧ (((0 ≤ v0 ∧ v0 < I 236 0) ∧ (0 ≤ v1 ∧ v1 ≤ 999)) → (ydF (SF (Int.toNat v0)) (LF (Int.toNat v0)) (Int.toNat (NF (Int.toNat v0))) v1 < 0 → (-1000002) = -1000002) ∧ (¬ ydF (SF (Int.toNat v0)) (LF (Int.toNat v0)) (Int.toNat (NF (Int.toNat v0))) v1 < 0 → (-1000002) = ydF (SF (Int.toNat v0)) (LF (Int.toNat v0)) (Int.toNat (NF (Int.toNat v0))) v1)) from by
                              refine ⟨fun z => ?_, fun z => ?_⟩
                              · first | omega | (exfalso; omega)
                              · rw [← qr10]
                                refine ⟨fun b => ?_, fun b => ?_⟩
                                all_goals first | omega | (exfalso; omega))⟩
    ·
      refine ⟨fun c => absurd (show ((0 : Int) = 0) from by decide) c, fun _ => ?_⟩
      refine ⟨⟨_, rfl, (by decide)⟩, ?_⟩
      refine s_X12_finding hF (v := (-1000001)) (by decide) ?_
      exact ⟨rfl, fun hv hA' => hQ _ _ (Rg.u hR (Pr_f rfl)) hA' (hv _ rfl) (fun ka ja hk => (uI_o (show ¬ (ka = 238 ∧ ja = 1) from by first | (intro e; obtain ⟨rfl, rfl⟩ := e; exact hk (by decide)) | omega))) (show (¬ ((0 ≤ v0 ∧ v0 < I 236 0) ∧ (0 ≤ v1 ∧ v1 ≤ 999)) → (-1000001) = -1000001) ∧ (((0 ≤ v0 ∧ v0 < I 236 0) ∧ (0 ≤ v1 ∧ v1 ≤ 999)) → (ydF (SF (Int.toNat v0)) (LF (Int.toNat v0)) (Int.toNat (NF (Int.toNat v0))) v1 < 0 → (-1000001) = -1000002) ∧ (¬ ydF (SF (Int.toNat v0)) (LF (Int.toNat v0)) (Int.toNat (NF (Int.toNat v0))) v1 < 0 → (-1000001) = ydF (SF (Int.toNat v0)) (LF (Int.toNat v0)) (Int.toNat (NF (Int.toNat v0))) v1)) from by
                              refine ⟨fun z => ?_, fun z => ?_⟩
                              · first | omega | (exfalso; omega)
                              · exfalso; omega)⟩
  ·
    refine ⟨fun _ => ?_, fun c => absurd (show ((0 : Int) = 0) from by decide) c⟩
    refine ⟨⟨_, rfl, (by decide)⟩, ?_⟩
    refine s_X12_finding hF (v := (-1000001)) (by decide) ?_
    exact ⟨rfl, fun hv hA' => hQ _ _ (Rg.u hR (Pr_f rfl)) hA' (hv _ rfl) (fun ka ja hk => (uI_o (show ¬ (ka = 238 ∧ ja = 1) from by first | (intro e; obtain ⟨rfl, rfl⟩ := e; exact hk (by decide)) | omega))) (show (¬ ((0 ≤ v0 ∧ v0 < I 236 0) ∧ (0 ≤ v1 ∧ v1 ≤ 999)) → (-1000001) = -1000001) ∧ (((0 ≤ v0 ∧ v0 < I 236 0) ∧ (0 ≤ v1 ∧ v1 ≤ 999)) → (ydF (SF (Int.toNat v0)) (LF (Int.toNat v0)) (Int.toNat (NF (Int.toNat v0))) v1 < 0 → (-1000001) = -1000002) ∧ (¬ ydF (SF (Int.toNat v0)) (LF (Int.toNat v0)) (Int.toNat (NF (Int.toNat v0))) v1 < 0 → (-1000001) = ydF (SF (Int.toNat v0)) (LF (Int.toNat v0)) (Int.toNat (NF (Int.toNat v0))) v1)) from by
                              refine ⟨fun z => ?_, fun z => ?_⟩
                              · first | omega | (exfalso; omega)
                              · exfalso; omega)⟩
end LI11
def CyieldsF (SF LF : Nat → Nat → Int) (NF : Nat → Int) (v0 v1 r : Int) (I : pI) : Prop := (¬ ((0 ≤ v0 ∧ v0 < I 1 1) ∧ (0 ≤ v1 ∧ v1 ≤ 999)) → r = -1000001) ∧ (((0 ≤ v0 ∧ v0 < I 1 1) ∧ (0 ≤ v1 ∧ v1 ≤ 999)) → (ydF (SF (Int.toNat v0)) (LF (Int.toNat v0)) (Int.toNat (NF (Int.toNat v0))) v1 < 0 → r = -1000002) ∧ (¬ ydF (SF (Int.toNat v0)) (LF (Int.toNat v0)) (Int.toNat (NF (Int.toNat v0))) v1 < 0 → r = ydF (SF (Int.toNat v0)) (LF (Int.toNat v0)) (Int.toNat (NF (Int.toNat v0))) v1))
def RyieldsF (SF LF : Nat → Nat → Int) (NF : Nat → Int) (v0 v1 r : Int) (J : pI) : Prop := (¬ ((0 ≤ v0 ∧ v0 < J 236 0) ∧ (0 ≤ v1 ∧ v1 ≤ 999)) → r = -1000001) ∧ (((0 ≤ v0 ∧ v0 < J 236 0) ∧ (0 ≤ v1 ∧ v1 ≤ 999)) → (ydF (SF (Int.toNat v0)) (LF (Int.toNat v0)) (Int.toNat (NF (Int.toNat v0))) v1 < 0 → r = -1000002) ∧ (¬ ydF (SF (Int.toNat v0)) (LF (Int.toNat v0)) (Int.toNat (NF (Int.toNat v0))) v1 < 0 → r = ydF (SF (Int.toNat v0)) (LF (Int.toNat v0)) (Int.toNat (NF (Int.toNat v0))) v1))
theorem yields_e {I J : pI} {v0 v1 r r' : Int} {SF LF : Nat → Nat → Int} {NF : Nat → Int} (hR : Rg I) (eO : I 1 1 = I 236 0) (h4 : ∀ k j, 235 ≤ k → J k j = I k j) (c : CyieldsF SF LF NF v0 v1 r I) (d : RyieldsF SF LF NF v0 v1 r' J) : r = r' := by
  have m := Rg.n0 hR
  have e0 : J 236 0 = I 236 0 := h4 236 0 (by decide)
  unfold CyieldsF at c
  unfold RyieldsF at d
  rw [e0, ← eO] at d
  by_cases v : (0 ≤ v0 ∧ v0 < I 1 1) ∧ (0 ≤ v1 ∧ v1 ≤ 999)
  · have c1 := c.2 v
    have d1 := d.2 v
    by_cases t : ydF (SF (Int.toNat v0)) (LF (Int.toNat v0)) (Int.toNat (NF (Int.toNat v0))) v1 < 0
    · exact (c1.1 t).trans (d1.1 t).symm
    · exact (c1.2 t).trans (d1.2 t).symm
  · exact (c.1 v).trans (d.1 v).symm
